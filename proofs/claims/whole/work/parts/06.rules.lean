/-! THE JUDGEMENT: a method of the claim, at pc, with these locals, this stack and these contents of the world, comes to its end with Q -/
def rugd : List Cond := lw_tbl.filter goodWord
theorem ru_gd {w : Cond} (h : w ∈ lw_tbl) (g : goodWord w = true) : w ∈ rugd := List.mem_filter.mpr ⟨h, g⟩
theorem ru_good : GoodIn rugd rugd := fun _ hw => ⟨hw, good_of_word (List.mem_filter.mp hw).2⟩
def ruRm (d : Nat) : Room := { frames := d, cells := 0, slots := 0, locals := 40 * d }
def ruas : Nat → List (Option Value) → List (Nat × Value)
  | _, [] => []
  | k, none :: r => ruas (k + 1) r
  | k, some v :: r => (k, v) :: ruas (k + 1) r
theorem ruas_mem : ∀ (L : List (Option Value)) (i : Nat) (q : Nat × Value), q ∈ ruas i L ↔ ∃ j, L[j]? = some (some q.2) ∧ q.1 = i + j
  | [], i, q => by simp [ruas]
  | none :: r, i, q => by
    rw [show ruas i (none :: r) = ruas (i + 1) r from rfl, ruas_mem r (i + 1) q]
    constructor
    · rintro ⟨j, h1, h2⟩
      exact ⟨j + 1, by simpa using h1, by omega⟩
    · rintro ⟨j, h1, h2⟩
      cases j with
      | zero => simp at h1
      | succ j => exact ⟨j, by simpa using h1, by omega⟩
  | some v :: r, i, q => by
    rw [show ruas i (some v :: r) = (i, v) :: ruas (i + 1) r from rfl, List.mem_cons, ruas_mem r (i + 1) q]
    constructor
    · rintro (rfl | ⟨j, h1, h2⟩)
      · exact ⟨0, rfl, rfl⟩
      · exact ⟨j + 1, by simpa using h1, by omega⟩
    · rintro ⟨j, h1, h2⟩
      cases j with
      | zero =>
        left
        obtain ⟨a, b⟩ := q
        simp at h1 h2
        rw [h1, h2]
      | succ j => exact Or.inr ⟨j, by simpa using h1, by omega⟩
def rulv (ls : Array Slot) (n : Nat) (L : List (Option Value)) : Prop := lv_has ls n (ruas 0 L)
theorem rulv_at {ls : Array Slot} {n : Nat} {L : List (Option Value)} (h : rulv ls n L) {k : Nat} {v : Value} (hk : L[k]? = some (some v)) : ls[k]? = some (.val v) :=
  h.2.2 (k, v) ((ruas_mem L 0 (k, v)).mpr ⟨k, hk, by simp⟩)
def rulong (L : List (Option Value)) : Nat → Bool
  | 0 => false
  | j + 1 => match L[j]? with
    | some (some v) => v.category == 2
    | _ => false
theorem rulv_set {ls : Array Slot} {n : Nat} {L : List (Option Value)} {i : Nat} {v : Value} (hc : rulong L i = false) (h : lv_has ls n ((i, v) :: (ruas 0 L).filter (fun q => !(q.1 == i) && !(q.1 + 1 == i && q.2.category == 2)))) : rulv ls n (L.set i (some v)) := by
  refine ⟨h.1, h.2.1, fun q hq => h.2.2 q ?_⟩
  obtain ⟨j, h1, h2⟩ := (ruas_mem _ 0 q).mp hq
  rw [Nat.zero_add] at h2
  by_cases e : j = i
  · subst e
    have hl : j < L.length := by
      have := (List.getElem?_eq_some_iff.mp h1).1
      rwa [List.length_set] at this
    rw [List.getElem?_set_self hl] at h1
    obtain ⟨a, b⟩ := q
    simp at h1 h2
    rw [h1, h2]
    exact List.mem_cons_self
  · rw [List.getElem?_set_ne (Ne.symm e)] at h1
    refine List.mem_cons_of_mem _ (List.mem_filter.mpr ⟨(ruas_mem L 0 q).mpr ⟨j, h1, by omega⟩, ?_⟩)
    have e1 : (q.1 == i) = false := by
      rw [h2]
      simpa using e
    have e2 : (q.1 + 1 == i && q.2.category == 2) = false := by
      cases i with
      | zero => simp
      | succ i =>
        by_cases ej : j = i
        · subst ej
          simp only [rulong, h1] at hc
          simp [hc]
        · have : (q.1 + 1 == i + 1) = false := by
            rw [h2]
            simpa using ej
          rw [this]
          rfl
    rw [e1, e2]
    rfl
theorem rulv_setL {ls : Array Slot} {n : Nat} {L : List (Option Value)} {i : Nat} {v : Value} (hc : rulong L i = false) (h : lv_has ls n ((i, v) :: (ruas 0 L).filter (fun q => !(q.1 == i) && (!(q.1 == i + 1) && !(q.1 + 1 == i && q.2.category == 2))))) : rulv ls n ((L.set i (some v)).set (i + 1) none) := by
  refine ⟨h.1, h.2.1, fun q hq => h.2.2 q ?_⟩
  obtain ⟨j, h1, h2⟩ := (ruas_mem _ 0 q).mp hq
  rw [Nat.zero_add] at h2
  have e9 : j ≠ i + 1 := by
    rintro rfl
    have hl := (List.getElem?_eq_some_iff.mp h1).1
    rw [List.length_set] at hl
    rw [List.getElem?_set_self hl] at h1
    cases h1
  rw [List.getElem?_set_ne (Ne.symm e9)] at h1
  by_cases e : j = i
  · subst e
    have hl : j < L.length := by
      have := (List.getElem?_eq_some_iff.mp h1).1
      rwa [List.length_set] at this
    rw [List.getElem?_set_self hl] at h1
    obtain ⟨a, b⟩ := q
    simp at h1 h2
    rw [h1, h2]
    exact List.mem_cons_self
  · rw [List.getElem?_set_ne (Ne.symm e)] at h1
    refine List.mem_cons_of_mem _ (List.mem_filter.mpr ⟨(ruas_mem L 0 q).mpr ⟨j, h1, by omega⟩, ?_⟩)
    have e1 : (q.1 == i) = false := by
      rw [h2]
      simpa using e
    have e3 : (q.1 == i + 1) = false := by
      rw [h2]
      simpa using e9
    have e2 : (q.1 + 1 == i && q.2.category == 2) = false := by
      cases i with
      | zero => simp
      | succ i =>
        by_cases ej : j = i
        · subst ej
          simp only [rulong, h1] at hc
          simp [hc]
        · have : (q.1 + 1 == i + 1) = false := by
            rw [h2]
            simpa using ej
          rw [this]
          rfl
    rw [e1, e2, e3]
    rfl
def ruX (E : ruE) (M : ruMD) (p : Program) (s : State) (m : MethodId) (args : Array Value) (meth : Method) (c : Code) : Prop :=
  CallFix p m c M.2.1 M.2.2.1 s args rugd M.1.cls ∧ meth.locks = false ∧ meth.sig.returnType = M.2.2.2 ∧ va_K E.2.1 rucl (rutys E) s ∧ ruRO E s ∧ ruinj E
def ruQ (E : ruE) (Q : Option Value → ruA → Prop) : Array Value → State → Outcome → State → Prop := fun _ s o t => (∃ (r : Option Value) (A : ruA), o = .returned r ∧ Q r A ∧ va_P E.2.1 rucl (ruws E A) t.heap) ∧ va_F (ruIn E) s t
def ruW (E : ruE) (M : ruMD) (d : Nat) (Q : Option Value → ruA → Prop) (pc : Nat) (L : List (Option Value)) (st : List Value) (A : ruA) : Prop :=
  ∀ (p : Program) (e : Env) (s : State) (m : MethodId) (args : Array Value) (below : List Frame) (meth : Method) (c : Code) (H : Heap) (locs : List Loc) (ls : Array Slot), ruX E M p s m args meth c → va_P E.2.1 rucl (ruws E A) H → va_S (ruIn E) s.heap H locs → rulv ls M.2.2.1 L →
    W p E.1 e (ruRm d) s m args below meth c H locs 0 0 (MQ below (ruQ E Q) args s 0 0 (ruIn E)) (F0 m pc ls st)
/-- a method's contract: from contents A, with these arguments, it ends with Q -/
def ruC (E : ruE) (M : ruMD) (d : Nat) (as : List Value) (A : ruA) (Q : Option Value → ruA → Prop) : Prop :=
  Met E.1 M.1 (.code M.1 M.2.1 M.2.2.1 M.2.2.2 :: rugd) (ruRm d) (va_Pc as (fun U => va_P E.2.1 rucl (ruws E A) U.heap ∧ va_K E.2.1 rucl (rutys E) U ∧ ruRO E U ∧ ruinj E)) (ruQ E Q) 0 0 (ruIn E)
theorem lv_args_as : ∀ (vs : List Value) (i : Nat), vs.all (fun v => v.category == 1) = true → lv_args i vs = ruas i (vs.map some)
  | [], _, _ => rfl
  | v :: vs, i, h => by
    rw [List.all_cons, Bool.and_eq_true] at h
    have hc : v.category = 1 := by simpa using h.1
    rw [show lv_args i (v :: vs) = (i, v) :: lv_args (if v.category = 2 then i + 2 else i + 1) vs from rfl, hc, if_neg (by decide), lv_args_as vs (i + 1) h.2]
    rfl
theorem ruas_none : ∀ (L : List (Option Value)) (i n : Nat), ruas i (L ++ List.replicate n none) = ruas i L
  | [], i, 0 => rfl
  | [], i, n + 1 => by
    rw [List.nil_append, List.replicate_succ]
    show ruas (i + 1) (List.replicate n none) = _
    have := ruas_none [] (i + 1) n
    rw [List.nil_append] at this
    rw [this]
    rfl
  | none :: r, i, n => ruas_none r (i + 1) n
  | some v :: r, i, n => congrArg (fun l => (i, v) :: l) (ruas_none r (i + 1) n)
theorem ruC.of {E : ruE} {M : ruMD} {d : Nat} {as : List Value} {A : ruA} {Q : Option Value → ruA → Prop} {L : List (Option Value)} (hy : plainName M.1.cls = true) (hc : as.all (fun v => v.category == 1) = true) (hn : (lg_sl as).length ≤ M.2.2.1) (hL : as.map some ++ List.replicate (M.2.2.1 - as.length) none = L) (h : ruW E M d Q 0 L [] A) : ruC E M d as A Q := by
  refine Met.ofW (cc := M.2.1) (maxL := M.2.2.1) (ret := M.2.2.2) hy rfl ?_
  intro p e s m args below meth c s₁ B hml hv
  obtain ⟨rfl, hP, hK, hRO, hI⟩ := hv
  have hts : ∀ w ∈ rugd, w.before as.toArray s = true := fun w hw => atoms_spec (ws := .code M.1 M.2.1 M.2.2.1 M.2.2.2 :: rugd) B.pre w (List.mem_cons_of_mem _ hw)
  have hl := lv_entry as (n := M.2.2.1) hn
  rw [lg_entry_eq]
  rw [lv_args_as as 0 hc] at hl
  refine h p e s m as.toArray below meth c s.heap [] _ ⟨⟨B.exec, B.bytes, hml, findClass_of_methodNamed B.named, hts⟩, B.notSynchronized, B.returns, hK, hRO, hI⟩ hP va_S.rf ?_
  rw [← hL]
  unfold rulv
  rw [ruas_none]
  exact hl
section RU
variable {E : ruE} {M : ruMD} {d : Nat} {Q : Option Value → ruA → Prop} {pc pc2 : Nat} {L : List (Option Value)} {st : List Value} {A : ruA}
theorem ru_iadd {x y : Int32} (hd : ruDec M pc (.iadd) 1 pc2) (k : ruW E M d Q pc2 L (.int (x + y) :: st) A) : ruW E M d Q pc L (.int y :: .int x :: st) A := by
  obtain ⟨hd, rfl⟩ := hd
  intro p e s m args below meth c H locs ls hX hP hS hl
  exact lv_iadd hX.1.1 hX.1.2.1 hd (k p e s m args below meth c H locs ls hX hP hS hl)
theorem ru_isub {x y : Int32} (hd : ruDec M pc (.isub) 1 pc2) (k : ruW E M d Q pc2 L (.int (x - y) :: st) A) : ruW E M d Q pc L (.int y :: .int x :: st) A := by
  obtain ⟨hd, rfl⟩ := hd
  intro p e s m args below meth c H locs ls hX hP hS hl
  exact lv_isub hX.1.1 hX.1.2.1 hd (k p e s m args below meth c H locs ls hX hP hS hl)
theorem ru_imul {x y : Int32} (hd : ruDec M pc (.imul) 1 pc2) (k : ruW E M d Q pc2 L (.int (x * y) :: st) A) : ruW E M d Q pc L (.int y :: .int x :: st) A := by
  obtain ⟨hd, rfl⟩ := hd
  intro p e s m args below meth c H locs ls hX hP hS hl
  exact lv_imul hX.1.1 hX.1.2.1 hd (k p e s m args below meth c H locs ls hX hP hS hl)
theorem ru_iand {x y : Int32} (hd : ruDec M pc (.iand) 1 pc2) (k : ruW E M d Q pc2 L (.int (x &&& y) :: st) A) : ruW E M d Q pc L (.int y :: .int x :: st) A := by
  obtain ⟨hd, rfl⟩ := hd
  intro p e s m args below meth c H locs ls hX hP hS hl
  exact lv_iand hX.1.1 hX.1.2.1 hd (k p e s m args below meth c H locs ls hX hP hS hl)
theorem ru_ior {x y : Int32} (hd : ruDec M pc (.ior) 1 pc2) (k : ruW E M d Q pc2 L (.int (x ||| y) :: st) A) : ruW E M d Q pc L (.int y :: .int x :: st) A := by
  obtain ⟨hd, rfl⟩ := hd
  intro p e s m args below meth c H locs ls hX hP hS hl
  exact lv_ior hX.1.1 hX.1.2.1 hd (k p e s m args below meth c H locs ls hX hP hS hl)
theorem ru_ixor {x y : Int32} (hd : ruDec M pc (.ixor) 1 pc2) (k : ruW E M d Q pc2 L (.int (x ^^^ y) :: st) A) : ruW E M d Q pc L (.int y :: .int x :: st) A := by
  obtain ⟨hd, rfl⟩ := hd
  intro p e s m args below meth c H locs ls hX hP hS hl
  exact lv_ixor hX.1.1 hX.1.2.1 hd (k p e s m args below meth c H locs ls hX hP hS hl)
theorem ru_ishl {x y : Int32} (hd : ruDec M pc (.ishl) 1 pc2) (k : ruW E M d Q pc2 L (.int (x <<< (y &&& 31)) :: st) A) : ruW E M d Q pc L (.int y :: .int x :: st) A := by
  obtain ⟨hd, rfl⟩ := hd
  intro p e s m args below meth c H locs ls hX hP hS hl
  exact lv_ishl hX.1.1 hX.1.2.1 hd (k p e s m args below meth c H locs ls hX hP hS hl)
theorem ru_ishr {x y : Int32} (hd : ruDec M pc (.ishr) 1 pc2) (k : ruW E M d Q pc2 L (.int (x >>> (y &&& 31)) :: st) A) : ruW E M d Q pc L (.int y :: .int x :: st) A := by
  obtain ⟨hd, rfl⟩ := hd
  intro p e s m args below meth c H locs ls hX hP hS hl
  exact lv_ishr hX.1.1 hX.1.2.1 hd (k p e s m args below meth c H locs ls hX hP hS hl)
theorem ru_iushr {x y : Int32} (hd : ruDec M pc (.iushr) 1 pc2) (k : ruW E M d Q pc2 L (.int ((x.toUInt32 >>> (y.toUInt32 &&& Int32.toUInt32 31)).toInt32) :: st) A) : ruW E M d Q pc L (.int y :: .int x :: st) A := by
  obtain ⟨hd, rfl⟩ := hd
  intro p e s m args below meth c H locs ls hX hP hS hl
  exact lv_iushr hX.1.1 hX.1.2.1 hd rfl (k p e s m args below meth c H locs ls hX hP hS hl)
theorem ru_idiv {x y : Int32} (hd : ruDec M pc (.idiv) 1 pc2) (hne : ¬ y = 0) (k : ruW E M d Q pc2 L (.int (x / y) :: st) A) : ruW E M d Q pc L (.int y :: .int x :: st) A := by
  obtain ⟨hd, rfl⟩ := hd
  intro p e s m args below meth c H locs ls hX hP hS hl
  exact lv_idiv hX.1.1 hX.1.2.1 hd hne (k p e s m args below meth c H locs ls hX hP hS hl)
theorem ru_irem {x y : Int32} (hd : ruDec M pc (.irem) 1 pc2) (hne : ¬ y = 0) (k : ruW E M d Q pc2 L (.int (x - x / y * y) :: st) A) : ruW E M d Q pc L (.int y :: .int x :: st) A := by
  obtain ⟨hd, rfl⟩ := hd
  intro p e s m args below meth c H locs ls hX hP hS hl
  exact lv_irem hX.1.1 hX.1.2.1 hd hne (k p e s m args below meth c H locs ls hX hP hS hl)
theorem ru_ineg {x : Int32} (hd : ruDec M pc (.ineg) 1 pc2) (k : ruW E M d Q pc2 L (.int (-x) :: st) A) : ruW E M d Q pc L (.int x :: st) A := by
  obtain ⟨hd, rfl⟩ := hd
  intro p e s m args below meth c H locs ls hX hP hS hl
  exact lv_ineg hX.1.1 hX.1.2.1 hd (k p e s m args below meth c H locs ls hX hP hS hl)
theorem ru_i2l {x : Int32} (hd : ruDec M pc (.i2l) 1 pc2) (k : ruW E M d Q pc2 L (.long x.toInt64 :: st) A) : ruW E M d Q pc L (.int x :: st) A := by
  obtain ⟨hd, rfl⟩ := hd
  intro p e s m args below meth c H locs ls hX hP hS hl
  exact lv_i2l hX.1.1 hX.1.2.1 hd rfl (k p e s m args below meth c H locs ls hX hP hS hl)
theorem ru_i2b {x : Int32} (hd : ruDec M pc (.i2b) 1 pc2) (k : ruW E M d Q pc2 L (.int x.toInt8.toInt32 :: st) A) : ruW E M d Q pc L (.int x :: st) A := by
  obtain ⟨hd, rfl⟩ := hd
  intro p e s m args below meth c H locs ls hX hP hS hl
  exact lv_i2b hX.1.1 hX.1.2.1 hd rfl (k p e s m args below meth c H locs ls hX hP hS hl)
theorem ru_i2s {x : Int32} (hd : ruDec M pc (.i2s) 1 pc2) (k : ruW E M d Q pc2 L (.int x.toInt16.toInt32 :: st) A) : ruW E M d Q pc L (.int x :: st) A := by
  obtain ⟨hd, rfl⟩ := hd
  intro p e s m args below meth c H locs ls hX hP hS hl
  exact lv_i2s hX.1.1 hX.1.2.1 hd rfl (k p e s m args below meth c H locs ls hX hP hS hl)
theorem ru_ladd {x y : Int64} (hd : ruDec M pc (.ladd) 1 pc2) (k : ruW E M d Q pc2 L (.long (x + y) :: st) A) : ruW E M d Q pc L (.long y :: .long x :: st) A := by
  obtain ⟨hd, rfl⟩ := hd
  intro p e s m args below meth c H locs ls hX hP hS hl
  exact lv_ladd hX.1.1 hX.1.2.1 hd (k p e s m args below meth c H locs ls hX hP hS hl)
theorem ru_lsub {x y : Int64} (hd : ruDec M pc (.lsub) 1 pc2) (k : ruW E M d Q pc2 L (.long (x - y) :: st) A) : ruW E M d Q pc L (.long y :: .long x :: st) A := by
  obtain ⟨hd, rfl⟩ := hd
  intro p e s m args below meth c H locs ls hX hP hS hl
  exact lv_lsub hX.1.1 hX.1.2.1 hd (k p e s m args below meth c H locs ls hX hP hS hl)
theorem ru_land {x y : Int64} (hd : ruDec M pc (.land) 1 pc2) (k : ruW E M d Q pc2 L (.long (x &&& y) :: st) A) : ruW E M d Q pc L (.long y :: .long x :: st) A := by
  obtain ⟨hd, rfl⟩ := hd
  intro p e s m args below meth c H locs ls hX hP hS hl
  exact lv_land hX.1.1 hX.1.2.1 hd (k p e s m args below meth c H locs ls hX hP hS hl)
theorem ru_lor {x y : Int64} (hd : ruDec M pc (.lor) 1 pc2) (k : ruW E M d Q pc2 L (.long (x ||| y) :: st) A) : ruW E M d Q pc L (.long y :: .long x :: st) A := by
  obtain ⟨hd, rfl⟩ := hd
  intro p e s m args below meth c H locs ls hX hP hS hl
  exact lv_lor hX.1.1 hX.1.2.1 hd (k p e s m args below meth c H locs ls hX hP hS hl)
theorem ru_lxor {x y : Int64} (hd : ruDec M pc (.lxor) 1 pc2) (k : ruW E M d Q pc2 L (.long (x ^^^ y) :: st) A) : ruW E M d Q pc L (.long y :: .long x :: st) A := by
  obtain ⟨hd, rfl⟩ := hd
  intro p e s m args below meth c H locs ls hX hP hS hl
  exact lv_lxor hX.1.1 hX.1.2.1 hd (k p e s m args below meth c H locs ls hX hP hS hl)
theorem ru_lshl {x : Int64} {y : Int32} (hd : ruDec M pc (.lshl) 1 pc2) (k : ruW E M d Q pc2 L (.long (x <<< (y.toInt64 &&& 63)) :: st) A) : ruW E M d Q pc L (.int y :: .long x :: st) A := by
  obtain ⟨hd, rfl⟩ := hd
  intro p e s m args below meth c H locs ls hX hP hS hl
  exact lv_lshl hX.1.1 hX.1.2.1 hd rfl (k p e s m args below meth c H locs ls hX hP hS hl)
theorem ru_lcmp {x y : Int64} (hd : ruDec M pc (.lcmp) 1 pc2) (k : ruW E M d Q pc2 L (.int (lg_cmp x y) :: st) A) : ruW E M d Q pc L (.long y :: .long x :: st) A := by
  obtain ⟨hd, rfl⟩ := hd
  intro p e s m args below meth c H locs ls hX hP hS hl
  exact W.lcmp hX.1.1 hX.1.2.1 hd (k p e s m args below meth c H locs ls hX hP hS hl)
theorem ru_iconst {n : Int} (v : Int32) (hd : ruDec M pc (.iconst n) 1 pc2) (hv : Int32.ofInt n = v) (k : ruW E M d Q pc2 L (.int v :: st) A) : ruW E M d Q pc L (st) A := by
  obtain ⟨hd, rfl⟩ := hd
  intro p e s m args below meth c H locs ls hX hP hS hl
  exact lv_iconst hX.1.1 hX.1.2.1 hd hv (k p e s m args below meth c H locs ls hX hP hS hl)
theorem ru_bipush {n : Int} (v : Int32) (hd : ruDec M pc (.bipush n) 2 pc2) (hv : (Int8.ofInt n).toInt32 = v) (k : ruW E M d Q pc2 L (.int v :: st) A) : ruW E M d Q pc L (st) A := by
  obtain ⟨hd, rfl⟩ := hd
  intro p e s m args below meth c H locs ls hX hP hS hl
  exact lv_bipush hX.1.1 hX.1.2.1 hd hv (k p e s m args below meth c H locs ls hX hP hS hl)
theorem ru_sipush {n : Int} (v : Int32) (hd : ruDec M pc (.sipush n) 3 pc2) (hv : (Int16.ofInt n).toInt32 = v) (k : ruW E M d Q pc2 L (.int v :: st) A) : ruW E M d Q pc L (st) A := by
  obtain ⟨hd, rfl⟩ := hd
  intro p e s m args below meth c H locs ls hX hP hS hl
  exact lv_sipush hX.1.1 hX.1.2.1 hd hv (k p e s m args below meth c H locs ls hX hP hS hl)
theorem ru_lconst {n : Fin 2} (v : Int64) (hd : ruDec M pc (.lconst n) 1 pc2) (hv : Int64.ofNat (n : Nat) = v) (k : ruW E M d Q pc2 L (.long v :: st) A) : ruW E M d Q pc L (st) A := by
  obtain ⟨hd, rfl⟩ := hd
  intro p e s m args below meth c H locs ls hX hP hS hl
  exact lv_lconst hX.1.1 hX.1.2.1 hd hv (k p e s m args below meth c H locs ls hX hP hS hl)
theorem ru_ldc {n : Nat} {v : Int32} (hd : ruDec M pc (.ldc n) 2 pc2) (hw : Jvm.Cond.constant M.1.cls n v ∈ lw_tbl) (k : ruW E M d Q pc2 L (.int v :: st) A) : ruW E M d Q pc L (st) A := by
  obtain ⟨hd, rfl⟩ := hd
  intro p e s m args below meth c H locs ls hX hP hS hl
  exact lv_ldc hX.1.1 hX.1.2.1 hX.1.2.2.2.1 (hX.1.2.2.2.2 _ (ru_gd hw rfl)) hd (k p e s m args below meth c H locs ls hX hP hS hl)
theorem ru_ldcw {n : Nat} {v : Int32} (hd : ruDec M pc (.ldc_w n) 3 pc2) (hw : Jvm.Cond.constant M.1.cls n v ∈ lw_tbl) (k : ruW E M d Q pc2 L (.int v :: st) A) : ruW E M d Q pc L (st) A := by
  obtain ⟨hd, rfl⟩ := hd
  intro p e s m args below meth c H locs ls hX hP hS hl
  exact lv_ldcw hX.1.1 hX.1.2.1 hX.1.2.2.2.1 (hX.1.2.2.2.2 _ (ru_gd hw rfl)) hd (k p e s m args below meth c H locs ls hX hP hS hl)
theorem ru_iload_n {n : Fin 4} {x : Int32} (hd : ruDec M pc (.iload_n n) 1 pc2) (hv : L[(n : Nat)]? = some (some (.int x))) (k : ruW E M d Q pc2 L (.int x :: st) A) : ruW E M d Q pc L (st) A := by
  obtain ⟨hd, rfl⟩ := hd
  intro p e s m args below meth c H locs ls hX hP hS hl
  exact lv_iload_n hX.1.1 hX.1.2.1 hd rfl (rulv_at hl hv) (k p e s m args below meth c H locs ls hX hP hS hl)
theorem ru_iload {n : Nat} {x : Int32} (hd : ruDec M pc (.iload n) 2 pc2) (hv : L[n]? = some (some (.int x))) (k : ruW E M d Q pc2 L (.int x :: st) A) : ruW E M d Q pc L (st) A := by
  obtain ⟨hd, rfl⟩ := hd
  intro p e s m args below meth c H locs ls hX hP hS hl
  exact lv_iload hX.1.1 hX.1.2.1 hd (rulv_at hl hv) (k p e s m args below meth c H locs ls hX hP hS hl)
theorem ru_lload_n {n : Fin 4} {x : Int64} (hd : ruDec M pc (.lload_n n) 1 pc2) (hv : L[(n : Nat)]? = some (some (.long x))) (k : ruW E M d Q pc2 L (.long x :: st) A) : ruW E M d Q pc L (st) A := by
  obtain ⟨hd, rfl⟩ := hd
  intro p e s m args below meth c H locs ls hX hP hS hl
  exact lv_lload_n hX.1.1 hX.1.2.1 hd rfl (rulv_at hl hv) (k p e s m args below meth c H locs ls hX hP hS hl)
theorem ru_lload {n : Nat} {x : Int64} (hd : ruDec M pc (.lload n) 2 pc2) (hv : L[n]? = some (some (.long x))) (k : ruW E M d Q pc2 L (.long x :: st) A) : ruW E M d Q pc L (st) A := by
  obtain ⟨hd, rfl⟩ := hd
  intro p e s m args below meth c H locs ls hX hP hS hl
  exact lv_lload hX.1.1 hX.1.2.1 hd (rulv_at hl hv) (k p e s m args below meth c H locs ls hX hP hS hl)
theorem ru_aload_n {n : Fin 4} {x : Nat} (hd : ruDec M pc (.aload_n n) 1 pc2) (hv : L[(n : Nat)]? = some (some (rurf E x))) (k : ruW E M d Q pc2 L (rurf E x :: st) A) : ruW E M d Q pc L (st) A := by
  obtain ⟨hd, rfl⟩ := hd
  intro p e s m args below meth c H locs ls hX hP hS hl
  exact lv_aload_n hX.1.1 hX.1.2.1 hd rfl (rulv_at hl hv) (k p e s m args below meth c H locs ls hX hP hS hl)
theorem ru_aload {n : Nat} {x : Nat} (hd : ruDec M pc (.aload n) 2 pc2) (hv : L[n]? = some (some (rurf E x))) (k : ruW E M d Q pc2 L (rurf E x :: st) A) : ruW E M d Q pc L (st) A := by
  obtain ⟨hd, rfl⟩ := hd
  intro p e s m args below meth c H locs ls hX hP hS hl
  exact lv_aload hX.1.1 hX.1.2.1 hd (rulv_at hl hv) (k p e s m args below meth c H locs ls hX hP hS hl)
theorem ru_dup {v : Value} (hd : ruDec M pc (.dup) 1 pc2) (hv : v.category = 1) (k : ruW E M d Q pc2 L (v :: v :: st) A) : ruW E M d Q pc L (v :: st) A := by
  obtain ⟨hd, rfl⟩ := hd
  intro p e s m args below meth c H locs ls hX hP hS hl
  exact lv_dup hX.1.1 hX.1.2.1 hd hv (k p e s m args below meth c H locs ls hX hP hS hl)
theorem ru_pop {v : Value} (hd : ruDec M pc (.pop) 1 pc2) (hv : v.category = 1) (k : ruW E M d Q pc2 L (st) A) : ruW E M d Q pc L (v :: st) A := by
  obtain ⟨hd, rfl⟩ := hd
  intro p e s m args below meth c H locs ls hX hP hS hl
  exact lv_pop hX.1.1 hX.1.2.1 hd hv (k p e s m args below meth c H locs ls hX hP hS hl)
theorem ru_dup2 {v w : Value} (hd : ruDec M pc (.dup2) 1 pc2) (hv : v.category = 1) (hw : w.category = 1) (k : ruW E M d Q pc2 L (v :: w :: v :: w :: st) A) : ruW E M d Q pc L (v :: w :: st) A := by
  obtain ⟨hd, rfl⟩ := hd
  intro p e s m args below meth c H locs ls hX hP hS hl
  exact lv_dup2_11 hX.1.1 hX.1.2.1 hd hv hw (k p e s m args below meth c H locs ls hX hP hS hl)
theorem ru_istore_n {n : Fin 4} {x : Int32} {L2 : List (Option Value)} (hd : ruDec M pc (.istore_n n) 1 pc2) (hn : (n : Nat) < M.2.2.1) (hc : rulong L n = false) (hL : L.set n (some (.int x)) = L2) (k : ruW E M d Q pc2 L2 st A) : ruW E M d Q pc L (.int x :: st) A := by
  obtain ⟨hd, rfl⟩ := hd
  intro p e s m args below meth c H locs ls hX hP hS hl
  subst hL
  exact lv_istore_n hX.1.1 hX.1.2.1 hd rfl hl hn rfl (fun ls hl => k p e s m args below meth c H locs ls hX hP hS (rulv_set hc hl))
theorem ru_istore {n : Nat} {x : Int32} {L2 : List (Option Value)} (hd : ruDec M pc (.istore n) 2 pc2) (hn : (n : Nat) < M.2.2.1) (hc : rulong L n = false) (hL : L.set n (some (.int x)) = L2) (k : ruW E M d Q pc2 L2 st A) : ruW E M d Q pc L (.int x :: st) A := by
  obtain ⟨hd, rfl⟩ := hd
  intro p e s m args below meth c H locs ls hX hP hS hl
  subst hL
  exact lv_istore hX.1.1 hX.1.2.1 hd hl hn rfl (fun ls hl => k p e s m args below meth c H locs ls hX hP hS (rulv_set hc hl))
theorem ru_astore_n {n : Fin 4} {x : Nat} {L2 : List (Option Value)} (hd : ruDec M pc (.astore_n n) 1 pc2) (hn : (n : Nat) < M.2.2.1) (hc : rulong L n = false) (hL : L.set n (some (rurf E x)) = L2) (k : ruW E M d Q pc2 L2 st A) : ruW E M d Q pc L (rurf E x :: st) A := by
  obtain ⟨hd, rfl⟩ := hd
  intro p e s m args below meth c H locs ls hX hP hS hl
  subst hL
  exact lv_astore_n hX.1.1 hX.1.2.1 hd rfl hl hn rfl (fun ls hl => k p e s m args below meth c H locs ls hX hP hS (rulv_set hc hl))
theorem ru_astore {n : Nat} {x : Nat} {L2 : List (Option Value)} (hd : ruDec M pc (.astore n) 2 pc2) (hn : (n : Nat) < M.2.2.1) (hc : rulong L n = false) (hL : L.set n (some (rurf E x)) = L2) (k : ruW E M d Q pc2 L2 st A) : ruW E M d Q pc L (rurf E x :: st) A := by
  obtain ⟨hd, rfl⟩ := hd
  intro p e s m args below meth c H locs ls hX hP hS hl
  subst hL
  exact lv_astore hX.1.1 hX.1.2.1 hd hl hn rfl (fun ls hl => k p e s m args below meth c H locs ls hX hP hS (rulv_set hc hl))
theorem ru_lstore_n {n : Fin 4} {x : Int64} {L2 : List (Option Value)} (hd : ruDec M pc (.lstore_n n) 1 pc2) (hn : (n : Nat) + 1 < M.2.2.1) (hc : rulong L n = false) (hL : (L.set n (some (.long x))).set ((n : Nat) + 1) none = L2) (k : ruW E M d Q pc2 L2 st A) : ruW E M d Q pc L (.long x :: st) A := by
  obtain ⟨hd, rfl⟩ := hd
  intro p e s m args below meth c H locs ls hX hP hS hl
  subst hL
  exact lv_lstore_n hX.1.1 hX.1.2.1 hd rfl hl hn rfl (fun ls hl => k p e s m args below meth c H locs ls hX hP hS (rulv_setL hc hl))
theorem ru_lstore {n : Nat} {x : Int64} {L2 : List (Option Value)} (hd : ruDec M pc (.lstore n) 2 pc2) (hn : (n : Nat) + 1 < M.2.2.1) (hc : rulong L n = false) (hL : (L.set n (some (.long x))).set ((n : Nat) + 1) none = L2) (k : ruW E M d Q pc2 L2 st A) : ruW E M d Q pc L (.long x :: st) A := by
  obtain ⟨hd, rfl⟩ := hd
  intro p e s m args below meth c H locs ls hX hP hS hl
  subst hL
  exact lv_lstore hX.1.1 hX.1.2.1 hd hl hn rfl (fun ls hl => k p e s m args below meth c H locs ls hX hP hS (rulv_setL hc hl))
theorem ru_iinc {n : Nat} {z : Int} {x : Int32} {L2 : List (Option Value)} (y : Int32) (hd : ruDec M pc (.iinc n z) 3 pc2) (hn : n < M.2.2.1) (hv : L[n]? = some (some (.int x))) (hy : x + Int32.ofInt z = y) (hc : rulong L n = false) (hL : L.set n (some (.int y)) = L2) (k : ruW E M d Q pc2 L2 st A) : ruW E M d Q pc L st A := by
  obtain ⟨hd, rfl⟩ := hd
  intro p e s m args below meth c H locs ls hX hP hS hl
  subst hL
  obtain ⟨i, hi⟩ := List.getElem?_of_mem ((ruas_mem L 0 (n, .int x)).mpr ⟨n, hv, by simp⟩)
  exact lv_iinc hX.1.1 hX.1.2.1 hd hl hi hy hn rfl (fun ls hl => k p e s m args below meth c H locs ls hX hP hS (rulv_set hc hl))
theorem ru_icmp_eq {x y : Int32} {off : Int} (tgt : Nat) (hd : ruDec M pc (.if_icmp .eq off) 3 pc2) (ht : (pc : Int) + off = (tgt : Int)) (kt : x = y → ruW E M d Q tgt L st A) (kf : ¬ (x = y) → ruW E M d Q pc2 L st A) : ruW E M d Q pc L (.int y :: .int x :: st) A := by
  obtain ⟨hd, rfl⟩ := hd
  intro p e s m args below meth c H locs ls hX hP hS hl
  exact lv_icmp_eq hX.1.1 hX.1.2.1 hd ht (fun h => kt h p e s m args below meth c H locs ls hX hP hS hl) (fun h => kf h p e s m args below meth c H locs ls hX hP hS hl)
theorem ru_if_eq {x : Int32} {off : Int} (tgt : Nat) (hd : ruDec M pc (.ifCond .eq off) 3 pc2) (ht : (pc : Int) + off = (tgt : Int)) (kt : x = 0 → ruW E M d Q tgt L st A) (kf : ¬ (x = 0) → ruW E M d Q pc2 L st A) : ruW E M d Q pc L (.int x :: st) A := by
  obtain ⟨hd, rfl⟩ := hd
  intro p e s m args below meth c H locs ls hX hP hS hl
  exact lv_if_eq hX.1.1 hX.1.2.1 hd ht (fun h => kt h p e s m args below meth c H locs ls hX hP hS hl) (fun h => kf h p e s m args below meth c H locs ls hX hP hS hl)
theorem ru_icmp_ne {x y : Int32} {off : Int} (tgt : Nat) (hd : ruDec M pc (.if_icmp .ne off) 3 pc2) (ht : (pc : Int) + off = (tgt : Int)) (kt : ¬ x = y → ruW E M d Q tgt L st A) (kf : x = y → ruW E M d Q pc2 L st A) : ruW E M d Q pc L (.int y :: .int x :: st) A := by
  obtain ⟨hd, rfl⟩ := hd
  intro p e s m args below meth c H locs ls hX hP hS hl
  exact lv_icmp_ne hX.1.1 hX.1.2.1 hd ht (fun h => kt h p e s m args below meth c H locs ls hX hP hS hl) (fun h => kf h p e s m args below meth c H locs ls hX hP hS hl)
theorem ru_if_ne {x : Int32} {off : Int} (tgt : Nat) (hd : ruDec M pc (.ifCond .ne off) 3 pc2) (ht : (pc : Int) + off = (tgt : Int)) (kt : ¬ x = 0 → ruW E M d Q tgt L st A) (kf : x = 0 → ruW E M d Q pc2 L st A) : ruW E M d Q pc L (.int x :: st) A := by
  obtain ⟨hd, rfl⟩ := hd
  intro p e s m args below meth c H locs ls hX hP hS hl
  exact lv_if_ne hX.1.1 hX.1.2.1 hd ht (fun h => kt h p e s m args below meth c H locs ls hX hP hS hl) (fun h => kf h p e s m args below meth c H locs ls hX hP hS hl)
theorem ru_icmp_lt {x y : Int32} {off : Int} (tgt : Nat) (hd : ruDec M pc (.if_icmp .lt off) 3 pc2) (ht : (pc : Int) + off = (tgt : Int)) (kt : x < y → ruW E M d Q tgt L st A) (kf : ¬ (x < y) → ruW E M d Q pc2 L st A) : ruW E M d Q pc L (.int y :: .int x :: st) A := by
  obtain ⟨hd, rfl⟩ := hd
  intro p e s m args below meth c H locs ls hX hP hS hl
  exact lv_icmp_lt hX.1.1 hX.1.2.1 hd ht (fun h => kt h p e s m args below meth c H locs ls hX hP hS hl) (fun h => kf h p e s m args below meth c H locs ls hX hP hS hl)
theorem ru_if_lt {x : Int32} {off : Int} (tgt : Nat) (hd : ruDec M pc (.ifCond .lt off) 3 pc2) (ht : (pc : Int) + off = (tgt : Int)) (kt : x < 0 → ruW E M d Q tgt L st A) (kf : ¬ (x < 0) → ruW E M d Q pc2 L st A) : ruW E M d Q pc L (.int x :: st) A := by
  obtain ⟨hd, rfl⟩ := hd
  intro p e s m args below meth c H locs ls hX hP hS hl
  exact lv_if_lt hX.1.1 hX.1.2.1 hd ht (fun h => kt h p e s m args below meth c H locs ls hX hP hS hl) (fun h => kf h p e s m args below meth c H locs ls hX hP hS hl)
theorem ru_icmp_ge {x y : Int32} {off : Int} (tgt : Nat) (hd : ruDec M pc (.if_icmp .ge off) 3 pc2) (ht : (pc : Int) + off = (tgt : Int)) (kt : y ≤ x → ruW E M d Q tgt L st A) (kf : ¬ (y ≤ x) → ruW E M d Q pc2 L st A) : ruW E M d Q pc L (.int y :: .int x :: st) A := by
  obtain ⟨hd, rfl⟩ := hd
  intro p e s m args below meth c H locs ls hX hP hS hl
  exact lv_icmp_ge hX.1.1 hX.1.2.1 hd ht (fun h => kt h p e s m args below meth c H locs ls hX hP hS hl) (fun h => kf h p e s m args below meth c H locs ls hX hP hS hl)
theorem ru_if_ge {x : Int32} {off : Int} (tgt : Nat) (hd : ruDec M pc (.ifCond .ge off) 3 pc2) (ht : (pc : Int) + off = (tgt : Int)) (kt : 0 ≤ x → ruW E M d Q tgt L st A) (kf : ¬ (0 ≤ x) → ruW E M d Q pc2 L st A) : ruW E M d Q pc L (.int x :: st) A := by
  obtain ⟨hd, rfl⟩ := hd
  intro p e s m args below meth c H locs ls hX hP hS hl
  exact lv_if_ge hX.1.1 hX.1.2.1 hd ht (fun h => kt h p e s m args below meth c H locs ls hX hP hS hl) (fun h => kf h p e s m args below meth c H locs ls hX hP hS hl)
theorem ru_icmp_gt {x y : Int32} {off : Int} (tgt : Nat) (hd : ruDec M pc (.if_icmp .gt off) 3 pc2) (ht : (pc : Int) + off = (tgt : Int)) (kt : y < x → ruW E M d Q tgt L st A) (kf : ¬ (y < x) → ruW E M d Q pc2 L st A) : ruW E M d Q pc L (.int y :: .int x :: st) A := by
  obtain ⟨hd, rfl⟩ := hd
  intro p e s m args below meth c H locs ls hX hP hS hl
  exact lv_icmp_gt hX.1.1 hX.1.2.1 hd ht (fun h => kt h p e s m args below meth c H locs ls hX hP hS hl) (fun h => kf h p e s m args below meth c H locs ls hX hP hS hl)
theorem ru_if_gt {x : Int32} {off : Int} (tgt : Nat) (hd : ruDec M pc (.ifCond .gt off) 3 pc2) (ht : (pc : Int) + off = (tgt : Int)) (kt : 0 < x → ruW E M d Q tgt L st A) (kf : ¬ (0 < x) → ruW E M d Q pc2 L st A) : ruW E M d Q pc L (.int x :: st) A := by
  obtain ⟨hd, rfl⟩ := hd
  intro p e s m args below meth c H locs ls hX hP hS hl
  exact lv_if_gt hX.1.1 hX.1.2.1 hd ht (fun h => kt h p e s m args below meth c H locs ls hX hP hS hl) (fun h => kf h p e s m args below meth c H locs ls hX hP hS hl)
theorem ru_icmp_le {x y : Int32} {off : Int} (tgt : Nat) (hd : ruDec M pc (.if_icmp .le off) 3 pc2) (ht : (pc : Int) + off = (tgt : Int)) (kt : x ≤ y → ruW E M d Q tgt L st A) (kf : ¬ (x ≤ y) → ruW E M d Q pc2 L st A) : ruW E M d Q pc L (.int y :: .int x :: st) A := by
  obtain ⟨hd, rfl⟩ := hd
  intro p e s m args below meth c H locs ls hX hP hS hl
  exact lv_icmp_le hX.1.1 hX.1.2.1 hd ht (fun h => kt h p e s m args below meth c H locs ls hX hP hS hl) (fun h => kf h p e s m args below meth c H locs ls hX hP hS hl)
theorem ru_if_le {x : Int32} {off : Int} (tgt : Nat) (hd : ruDec M pc (.ifCond .le off) 3 pc2) (ht : (pc : Int) + off = (tgt : Int)) (kt : x ≤ 0 → ruW E M d Q tgt L st A) (kf : ¬ (x ≤ 0) → ruW E M d Q pc2 L st A) : ruW E M d Q pc L (.int x :: st) A := by
  obtain ⟨hd, rfl⟩ := hd
  intro p e s m args below meth c H locs ls hX hP hS hl
  exact lv_if_le hX.1.1 hX.1.2.1 hd ht (fun h => kt h p e s m args below meth c H locs ls hX hP hS hl) (fun h => kf h p e s m args below meth c H locs ls hX hP hS hl)
theorem ru_goto {off : Int} (tgt : Nat) (hd : ruDec M pc (.goto off) 3 pc2) (ht : (pc : Int) + off = (tgt : Int)) (k : ruW E M d Q tgt L st A) : ruW E M d Q pc L st A := by
  obtain ⟨hd, rfl⟩ := hd
  intro p e s m args below meth c H locs ls hX hP hS hl
  exact lv_goto hX.1.1 hX.1.2.1 hd ht (k p e s m args below meth c H locs ls hX hP hS hl)
theorem ru_tableIn {dflt lo hi : Int} {offs : Array Int} {n : Nat} {x : Int32} {off : Int} (tgt : Nat) (hd : ruDec M pc (.tableswitch dflt lo hi offs) n pc2) (h1 : ¬ x.toInt < lo) (h2 : ¬ hi < x.toInt) (ho : offs[(x.toInt - lo).toNat]? = some off) (ht : (pc : Int) + off = (tgt : Int)) (k : ruW E M d Q tgt L st A) : ruW E M d Q pc L (.int x :: st) A := by
  obtain ⟨hd, rfl⟩ := hd
  intro p e s m args below meth c H locs ls hX hP hS hl
  exact lv_tableIn hX.1.1 hX.1.2.1 hd h1 h2 ho ht (k p e s m args below meth c H locs ls hX hP hS hl)
theorem ru_tableOut {dflt lo hi : Int} {offs : Array Int} {n : Nat} {x : Int32} (tgt : Nat) (hd : ruDec M pc (.tableswitch dflt lo hi offs) n pc2) (h : x.toInt < lo ∨ hi < x.toInt) (ht : (pc : Int) + dflt = (tgt : Int)) (k : ruW E M d Q tgt L st A) : ruW E M d Q pc L (.int x :: st) A := by
  obtain ⟨hd, rfl⟩ := hd
  intro p e s m args below meth c H locs ls hX hP hS hl
  exact lv_tableOut hX.1.1 hX.1.2.1 hd h ht (k p e s m args below meth c H locs ls hX hP hS hl)
theorem ru_lookup {dflt : Int} {ps : Array (Int × Int)} {n : Nat} {x : Int32} {off : Int} (tgt : Nat) (hd : ruDec M pc (.lookupswitch dflt ps) n pc2) (hp : (ps.toList.zip (ps.toList.drop 1)).all (fun (a, next) => a.1 < next.1) = true) (ho : Op.lookupswitch.offset ps.toList dflt x.toInt = off) (ht : (pc : Int) + off = (tgt : Int)) (k : ruW E M d Q tgt L st A) : ruW E M d Q pc L (.int x :: st) A := by
  obtain ⟨hd, rfl⟩ := hd
  intro p e s m args below meth c H locs ls hX hP hS hl
  exact lv_lookup hX.1.1 hX.1.2.1 hd hp ho ht (k p e s m args below meth c H locs ls hX hP hS hl)
end RU
