/-! LEVEL 3: an array of six rows -/
def mwO (cA : ClassId) (h i : Nat) : Cell := arrV cA 6 (fun j => if j < i then .ref (h + 1 + j) else .null)
def mwN (comp : ClassId) : Cell := arrV comp 100 (fun _ => .int 0)
theorem mwO_set (cA : ClassId) (h i : Nat) : (mwO cA h i).setSlot i (.ref (h + 1 + i)) = mwO cA h (i + 1) := by
  unfold mwO
  rw [arrV_store]
  congr 1
  funext j
  unfold updV
  by_cases e : j = i
  · rw [e, if_pos rfl, if_pos (by omega)]
  · rw [if_neg e]
    show (if j < i then Value.ref (h + 1 + j) else Value.null) = _
    by_cases c : j < i
    · rw [if_pos c, if_pos (by omega)]
    · rw [if_neg c, if_neg (by omega)]
def mwI (T S : State) (cA comp : ClassId) (i : Nat) : Prop := S.heap.size = T.heap.size + 1 + i ∧ S.heap[T.heap.size]? = some (mwO cA T.heap.size i) ∧ (∀ j, j < i → S.heap[T.heap.size + 1 + j]? = some (mwN comp)) ∧ (∀ q, q < T.heap.size → S.heap[q]? = T.heap[q]?) ∧ S.vm = T.vm ∧ S.slotsUsed = T.slotsUsed + 6 + i * 100
theorem mwI_first (T : State) (cA comp : ClassId) : mwI T (T.pushCell (mwO cA T.heap.size 0)) cA comp 0 := by
  refine ⟨by simp, by simp, fun j hj => by omega, fun q hq => State.heap_pushCell_of_lt _ _ hq, rfl, ?_⟩
  rw [State.slotsUsed_pushCell]
  unfold mwO
  rw [arrV_size]
theorem mwI_next {T S : State} {cA comp : ClassId} {i : Nat} (h : mwI T S cA comp i) : mwI T ((S.pushCell (mwN comp)).setCell T.heap.size (mwO cA T.heap.size (i + 1))) cA comp (i + 1) := by
  obtain ⟨h1, h2, h3, h4, h5, h6⟩ := h
  have hlt : T.heap.size < S.heap.size := by omega
  have hc : (S.pushCell (mwN comp)).heap[T.heap.size]? = some (mwO cA T.heap.size i) := by rw [State.heap_pushCell_of_lt (h := hlt)]; exact h2
  refine ⟨?_, State.heap_setCell_self hc, fun j hj => ?_, fun q hq => ?_, h5, ?_⟩
  · rw [size_setCell]
    simp
    omega
  · rw [State.heap_setCell_other (show T.heap.size ≠ T.heap.size + 1 + j by omega)]
    by_cases e : j = i
    · subst e
      rw [← h1]
      exact State.heap_pushCell_size _ _
    · rw [State.heap_pushCell_of_lt (h := show T.heap.size + 1 + j < S.heap.size by omega)]
      exact h3 j (by omega)
  · rw [State.heap_setCell_other (show T.heap.size ≠ q by omega), State.heap_pushCell_of_lt (h := show q < S.heap.size by omega)]
    exact h4 q hq
  · rw [State.slotsUsed_setCell, State.slotsUsed_pushCell, h6]
    unfold mwN
    rw [arrV_size]
    omega
def mwS (T : State) (cA comp : ClassId) : Nat → State
  | 0 => T.pushCell (mwO cA T.heap.size 0)
  | i + 1 => ((mwS T cA comp i).pushCell (mwN comp)).setCell T.heap.size (mwO cA T.heap.size (i + 1))
theorem mwS_I (T : State) (cA comp : ClassId) : ∀ i, mwI T (mwS T cA comp i) cA comp i
  | 0 => mwI_first T cA comp
  | i + 1 => mwI_next (mwS_I T cA comp i)
section MW
variable {E : CtlPost} {e : Env} {d : Bool} {acts : List Action} {S : State}
theorem mw_new {c comp : ClassId} {k : Class} {ty : FieldType} {n : Nat} {v : Value} (hk : S.vm.classes[c]? = some k) (hkd : k.kind = .array comp ty) (hl : ¬ n > e.platform.arrayLengthLimit) (hh : ¬ n * componentBytes ty > e.platform.maxHeapBytes) (hf : fits ty v = true) (hv : v.isDefault = true) {Q : Addr → Pre} (h1 : S.heap.size < e.platform.maxCells) (h2 : S.slotsUsed + n ≤ e.platform.maxSlots) (hq : Q S.heap.size d acts (S.pushCell (arrV c n (fun _ => v)))) : wp (Jvm.newArray c n v) Q E e d acts S := by
  have hfit : ∀ i u, (Array.replicate n v)[i]? = some u → S.fitsSlot c .none i u = true := by
    intro i u hu
    rw [Array.getElem?_replicate] at hu
    split at hu
    · cases hu
      simp [State.fitsSlot, State.slotType?, hk, hkd, hf]
    · cases hu
  have hact : allocActs (Array.replicate n v) S.heap.size acts = acts := by
    unfold allocActs
    rw [if_pos (by rw [Array.all_replicate]; split <;> simp [hv])]
  rw [← arrV_new] at hq
  simp only [Jvm.newArray, Jvm.arrayFits, wp_bind', W.ask, W.ite, hl, if_false, wp_pure', W.theClass, hk, hkd, hh, W.alloc, W.stop, Option.some.injEq, exists_eq_left', Array.size_replicate, hact]
  rw [if_neg (by omega)]
  exact ⟨h1, h2, hfit, hq⟩
theorem mw_row {comp cc : ClassId} {k : Class} (hk : S.vm.classes[comp]? = some k) (hkd : k.kind = .array cc .int) (hl : ¬ 100 > e.platform.arrayLengthLimit) (hh : ¬ 100 * componentBytes .int > e.platform.maxHeapBytes) {Q : Addr → Pre} (h1 : S.heap.size < e.platform.maxCells) (h2 : S.slotsUsed + 100 ≤ e.platform.maxSlots) (hq : Q S.heap.size d acts (S.pushCell (mwN comp))) : wp (multianewarray.make comp [100]) Q E e d acts S := by
  rw [multianewarray.make]
  simp only [wp_bind', W.ite, show ¬ (100 : Int32) < 0 by decide, if_false, wp_pure', W.theClass, hk, hkd, Option.some.injEq, exists_eq_left']
  exact mw_new hk hkd hl hh rfl rfl h1 h2 hq
theorem mw_make {T : State} {f : JFrame} {cA comp cc : ClassId} {k kc : Class} (hk : T.vm.classes[cA]? = some k) (hkd : k.kind = .array comp (.array .int)) (hkc : T.vm.classes[comp]? = some kc) (hkdc : kc.kind = .array cc .int) (hl1 : ¬ 6 > e.platform.arrayLengthLimit) (hh1 : ¬ 6 * componentBytes (.array .int) > e.platform.maxHeapBytes) (hl : ¬ 100 > e.platform.arrayLengthLimit) (hh : ¬ 100 * componentBytes .int > e.platform.maxHeapBytes) (h1 : T.heap.size + 7 ≤ e.platform.maxCells) (h2 : T.slotsUsed + 606 ≤ e.platform.maxSlots) {Q : Addr → Pre} (hq : ∀ d' acts', Q T.heap.size d' acts' ((mwS T cA comp 6).setTop f)) : wp (multianewarray.make cA [6, 100]) Q E e d acts (T.setTop f) := by
  have hfind : ([(100 : Int32)].find? (· < 0)) = none := by decide
  rw [multianewarray.make]
  simp only [wp_bind', W.ite, show ¬ (6 : Int32) < 0 by decide, if_false, wp_pure', W.theClass, State.vm_setTop, hk, hkd, Option.some.injEq, exists_eq_left']
  refine mw_new (S := T.setTop f) hk hkd hl1 hh1 rfl rfl (show T.heap.size < _ by omega) (show T.slotsUsed + 6 ≤ _ by omega) ?_
  simp only [hfind]
  rw [ite_self, wp_bind', Std.Legacy.Range.forIn_eq_forIn_range']
  show wp (forIn (List.range' 0 6 1) PUnit.unit _) _ E e d acts _
  refine wp_forIn_inv (fun rest s' => ∃ i, i ≤ 6 ∧ rest = List.range' i (6 - i) ∧ s' = (mwS T cA comp i).setTop f) _ _ ⟨0, by decide, rfl, ?_⟩ ?_ ?_
  · rw [State.pushCell_setTop]
    rfl
  · rintro x rest s' d' acts' Q' ⟨i, hi, hl9, rfl⟩ hnext
    have hlt : i < 6 := by
      by_cases c : i < 6
      · exact c
      · rw [show 6 - i = 0 by omega] at hl9
        simp at hl9
    have hx : x = i ∧ rest = List.range' (i + 1) (6 - (i + 1)) := by
      rw [show 6 - i = (6 - (i + 1)) + 1 by omega, List.range'_succ] at hl9
      exact ⟨(List.cons.inj hl9).1, (List.cons.inj hl9).2⟩
    obtain ⟨rfl, hrest⟩ := hx
    obtain ⟨g1, g2, g3, g4, g5, g6⟩ := mwS_I T cA comp x
    simp only [wp_bind']
    refine mw_row (S := (mwS T cA comp x).setTop f) (by rw [State.vm_setTop, g5]; exact hkc) hkdc hl hh (show (mwS T cA comp x).heap.size < _ by omega) (show (mwS T cA comp x).slotsUsed + 100 ≤ _ by omega) ?_
    simp only [wp_bind', W.writeLoc, wp_pure']
    refine ⟨mwO cA T.heap.size x, ?_, ?_, ?_, ?_, hnext _ _ _ ⟨x + 1, hlt, hrest, ?_⟩⟩
    · simp only [State.pushCell_setTop, State.heap_setTop]
      rw [State.heap_pushCell_of_lt (h := show T.heap.size < (mwS T cA comp x).heap.size by omega)]
      exact g2
    · show VmData.none ≠ _
      simp
    · unfold mwO
      rw [arrV_size]
      exact hlt
    · show State.fitsSlot _ cA .none x _ = true
      simp [State.fitsSlot, State.slotType?, g5, hk, hkd, fits]
    · simp only [State.pushCell_setTop, State.setCell_setTop, State.heap_setTop]
      rw [g1, mwO_set]
      rfl
  · rintro s' d' acts' ⟨i, hi, hl9, rfl⟩
    have hi6 : i = 6 := by
      by_cases c : i < 6
      · rw [show 6 - i = (6 - (i + 1)) + 1 by omega, List.range'_succ] at hl9
        cases hl9
      · omega
    subst hi6
    simp only [wp_pure']
    exact hq _ _
end MW
section MWR
variable {p : Program} {l : Launch} {e : Env} {R : Room} {s : State} {m : MethodId} {args : Array Value} {below : List Frame} {meth : Method} {c : Code} {H : Heap} {locs : List Loc} {cells slots : Nat} {Q : State → Prop} {cc : ByteArray} {pc : Nat} {ls : Array Slot} {rest : List Value}
theorem mw_stand {T : State} (X : Stand p l e R s m args below meth c T locs cells slots) (cA comp : ClassId) : ∀ i, ∃ Lx : List Loc, (∀ q ∈ Lx, q ∈ locs ∨ q.base = T.heap.size) ∧ Stand p l e R s m args below meth c (mwS T cA comp i) Lx (cells + 1 + i) (slots + 6 + i * 100)
  | 0 => by
    have h := X.pushed (mwO cA T.heap.size 0)
    rw [show (mwO cA T.heap.size 0).slots.size = 6 from arrV_size _ _ _] at h
    exact ⟨locs, fun q hq => Or.inl hq, h⟩
  | i + 1 => by
    obtain ⟨Lx, h1, h2⟩ := mw_stand X cA comp i
    obtain ⟨g1, g2, g3, g4, g5, g6⟩ := mwS_I T cA comp i
    have hc : ((mwS T cA comp i).pushCell (mwN comp)).heap[T.heap.size]? = some (mwO cA T.heap.size i) := by
      rw [State.heap_pushCell_of_lt (h := show T.heap.size < (mwS T cA comp i).heap.size by omega)]
      exact g2
    have h := (h2.pushed (mwN comp)).stored hc i (.ref (T.heap.size + 1 + i))
    rw [show (mwN comp).slots.size = 100 from arrV_size _ _ _, mwO_set] at h
    refine ⟨Lx ++ [⟨T.heap.size, i⟩], fun q hq => ?_, ?_⟩
    · rcases List.mem_append.mp hq with hq | hq
      · exact h1 q hq
      · rw [List.mem_singleton.mp hq]
        exact Or.inr rfl
    · rw [show slots + 6 + (i + 1) * 100 = slots + 6 + i * 100 + 100 by omega]
      exact h
theorem va_manew (hexec : p.tables.exec = Jvm.exec) (hb : c.code = cc) {own : String} {index : Nat} (hown : s.vm.findClass own = some m.cls) (hcl : (Cond.classLink own index "[[I").before args s = true) {cA comp cc0 : ClassId} {kA kC : Class} (hfA : s.vm.findClass "[[I" = some cA) (hkA : s.vm.classes[cA]? = some kA) (hkdA : kA.kind = .array comp (.array .int)) (hkC : s.vm.classes[comp]? = some kC) (hkdC : kC.kind = .array cc0 .int) (hcells : cells + 7 ≤ R.cells) (hslots : slots + 606 ≤ R.slots) (hdg : decode cc pc = .ok (.multianewarray index 2, 4))
    (kk : ∀ (H1 : Heap) (locs1 : List Loc), H1.size = H.size + 7 → H1[H.size]? = some (mwO cA H.size 6) → (∀ j, j < 6 → H1[H.size + 1 + j]? = some (mwN comp)) → (∀ q, q < H.size → H1[q]? = H[q]?) → (∀ q ∈ locs1, q ∈ locs ∨ q.base = H.size) → W p l e R s m args below meth c H1 locs1 (cells + 7) (slots + 606) Q (F0 m (pc + 4) ls (.ref H.size :: rest))) : W p l e R s m args below meth c H locs cells slots Q (F0 m pc ls (.int 100 :: .int 6 :: rest)) := by
  intro T hT X
  subst hT
  subst hb
  have hpl : e.platform.magicAccessors = ({} : Platform).magicAccessors := by rw [X.admits.platform]
  obtain ⟨c0, hfc0, hclk⟩ := Cond.classLink_spec hown hcl e.platform hpl
  cases hfA.symm.trans hfc0
  obtain ⟨hg₁, hwarm₁, hready₁⟩ := State.classEntry (e := e) X.warmed hclk
  generalize T.vm.noted m.cls index (.cls cA) = vm₁ at hg₁ hwarm₁ hready₁
  have hal : s.vm.Alike vm₁ := hwarm₁.alike
  obtain ⟨kA₁, hkA₁, heA⟩ := hal.2.2 _ _ hkA
  obtain ⟨kC₁, hkC₁, heC⟩ := hal.2.2 _ _ hkC
  have hkdA₁ : kA₁.kind = .array comp (.array .int) := by rw [heA]; exact hkdA
  have hkdC₁ : kC₁.kind = .array cc0 .int := by rw [heC]; exact hkdC
  have X₁ := X.noted hwarm₁
  obtain ⟨Lx, hLx, XF⟩ := mw_stand X₁ cA comp 6
  obtain ⟨hr1, hr2⟩ := X.roomAbove hcells hslots
  obtain ⟨g1, g2, g3, g4, g5, g6⟩ := mwS_I (T.setVm vm₁) cA comp 6
  obtain ⟨t', a1, b1⟩ := kk (mwS (T.setVm vm₁) cA comp 6).heap Lx g1 g2 g3 g4 hLx (mwS (T.setVm vm₁) cA comp 6) rfl XF
  refine ⟨t', ?_, b1⟩
  have hl1 : ¬ 6 > e.platform.arrayLengthLimit := by rw [Launch.admits_arrayLengthLimit X.admits]; omega
  have hh1 : ¬ 6 * componentBytes (.array .int) > e.platform.maxHeapBytes := by rw [Launch.admits_maxHeapBytes X.admits]; decide
  have hl2 : ¬ 100 > e.platform.arrayLengthLimit := by rw [Launch.admits_arrayLengthLimit X.admits]; omega
  have hh2 : ¬ 100 * componentBytes .int > e.platform.maxHeapBytes := by rw [Launch.admits_maxHeapBytes X.admits]; decide
  jvm_step X.here [hexec, hdg]
  simp only [multianewarray.sem, wp_bind', W.resolveClassAt_links (State.method?_setTop (F0 m pc ls (.int 100 :: .int 6 :: rest)) X.here.top) hg₁]
  rw [W.popN, if_neg (by decide)]
  refine ⟨F0 m pc ls (.int 100 :: .int 6 :: rest), State.topJava?_setTop' (s := T.setVm vm₁) _ X.here.top, [.int 6, .int 100], rest, rfl, rfl, ?_⟩
  simp only [List.mapM_cons, List.mapM_nil, wp_bind', wp_pure']
  have eS : ((T.setTop (F0 m pc ls (.int 100 :: .int 6 :: rest))).setVm vm₁).setTop { F0 m pc ls (.int 100 :: .int 6 :: rest) with stack := rest } = (T.setVm vm₁).setTop { F0 m pc ls (.int 100 :: .int 6 :: rest) with stack := rest } := by
    show ((T.setVm vm₁).setTop _).setTop _ = _
    rw [State.setTop_setTop]
  rw [eS]
  refine mw_make (T := T.setVm vm₁) hkA₁ hkdA₁ hkC₁ hkdC₁ hl1 hh1 hl2 hh2 hr1 hr2 (fun d' acts' => ?_)
  simp only [wp_bind', W.mark, W.pushRef, State.topJava?_setTop' _ XF.here.top, Option.some.injEq, exists_eq_left', State.setTop_setTop, State.heap_setTop]
  intro acts
  simp [jvm, XF.here.top]
  exact a1
end MWR
