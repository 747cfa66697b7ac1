/-! what the walks that a program writes use -/
def ruPr (r : Int32) (B : ruA) : Option Value → ruA → Prop := fun v C => v = some (.int r) ∧ C = B
def ruPv (B : ruA) : Option Value → ruA → Prop := fun v C => v = none ∧ C = B
def ruushr (x y : Int32) : Int32 := (x.toUInt32 >>> (y.toUInt32 &&& Int32.toUInt32 31)).toInt32
def ruF : Nat := 20000
def ruLe : List (Option Value) → List (Option Value) → Prop
  | [], _ => True
  | none :: a, _ :: b => ruLe a b
  | some v :: a, x :: b => x = some v ∧ ruLe a b
  | _ :: _, [] => False
theorem ruLe_at : ∀ (a b : List (Option Value)), ruLe a b → ∀ (k : Nat) (v : Value), a[k]? = some (some v) → b[k]? = some (some v)
  | [], _, _, k, v, h => by simp at h
  | none :: a, x :: b, hl, 0, v, h => by simp at h
  | none :: a, x :: b, hl, k + 1, v, h => by
    rw [List.getElem?_cons_succ] at h ⊢
    exact ruLe_at a b hl k v h
  | some w :: a, x :: b, hl, 0, v, h => by
    simp at h
    subst h
    rw [hl.1]
    rfl
  | some w :: a, x :: b, hl, k + 1, v, h => by
    rw [List.getElem?_cons_succ] at h ⊢
    exact ruLe_at a b hl.2 k v h
  | none :: a, [], hl, k, v, h => hl.elim
  | some w :: a, [], hl, k, v, h => hl.elim
theorem ru_swout {x : Int32} {lo hi : Int} (h : ∀ j : Nat, lo + j ≤ hi → ¬ x = Int32.ofInt (lo + j)) : x.toInt < lo ∨ hi < x.toInt := by
  by_cases h1 : x.toInt < lo
  · exact Or.inl h1
  · by_cases h2 : hi < x.toInt
    · exact Or.inr h2
    · exfalso
      have e : lo + ((x.toInt - lo).toNat : Int) = x.toInt := by omega
      refine h (x.toInt - lo).toNat (by omega) ?_
      rw [e, Int32.ofInt_toInt]
/-- the target of a switch on a number -/
def ruTab (pc : Nat) (dflt lo hi : Int) (offs : Array Int) (c : Int32) (tgt : Nat) : Prop := ¬ c.toInt < lo ∧ ¬ hi < c.toInt ∧ ∃ off, offs[(c.toInt - lo).toNat]? = some off ∧ (pc : Int) + off = (tgt : Int)
section RUT
variable {E : ruE} {M : ruMD} {d : Nat} {Q : Option Value → ruA → Prop} {pc pc2 : Nat} {L : List (Option Value)} {st : List Value} {A : ruA}
theorem ru_wk {L2 : List (Option Value)} (hL : ruLe L2 L) (k : ruW E M d Q pc L2 st A) : ruW E M d Q pc L st A := ru_weak (ruLe_at L2 L hL) k
theorem ru_tabC {dflt lo hi : Int} {offs : Array Int} {n : Nat} {x c : Int32} (tgt : Nat) (hd : ruDec M pc (.tableswitch dflt lo hi offs) n pc2) (hx : x = c) (ht : ruTab pc dflt lo hi offs c tgt) (k : ruW E M d Q tgt L st A) : ruW E M d Q pc L (.int x :: st) A := by
  subst hx
  obtain ⟨h1, h2, off, h3, h4⟩ := ht
  exact ru_tableIn tgt hd h1 h2 h3 h4 k
theorem ru_tabD {dflt lo hi : Int} {offs : Array Int} {n : Nat} {x : Int32} (tgt : Nat) (hd : ruDec M pc (.tableswitch dflt lo hi offs) n pc2) (hx : ∀ j : Nat, lo + j ≤ hi → ¬ x = Int32.ofInt (lo + j)) (ht : (pc : Int) + dflt = (tgt : Int)) (k : ruW E M d Q tgt L st A) : ruW E M d Q pc L (.int x :: st) A := ru_tableOut tgt hd (ru_swout hx) ht k
theorem ru_lokC {dflt off : Int} {ps : Array (Int × Int)} {n : Nat} {x c : Int32} (tgt : Nat) (hd : ruDec M pc (.lookupswitch dflt ps) n pc2) (hp : (ps.toList.zip (ps.toList.drop 1)).all (fun (a, next) => a.1 < next.1) = true) (hx : x = c) (ho : Op.lookupswitch.offset ps.toList dflt c.toInt = off) (ht : (pc : Int) + off = (tgt : Int)) (k : ruW E M d Q tgt L st A) : ruW E M d Q pc L (.int x :: st) A := by
  subst hx
  exact ru_lookup tgt hd hp ho ht k
theorem ru_lokD2 {dflt o0 o1 : Int} {n : Nat} {x : Int32} (tgt : Nat) (hd : ruDec M pc (.lookupswitch dflt #[(0, o0), (1, o1)]) n pc2) (h0 : ¬ x = 0) (h1 : ¬ x = 1) (ht : (pc : Int) + dflt = (tgt : Int)) (k : ruW E M d Q tgt L st A) : ruW E M d Q pc L (.int x :: st) A := by
  refine ru_lookup tgt hd rfl ?_ ht k
  show (if (0 : Int) = x.toInt then o0 else if (1 : Int) = x.toInt then o1 else dflt) = dflt
  rw [if_neg (fun h => h0 (Int32.toInt_inj.mp h.symm)), if_neg (fun h => h1 (Int32.toInt_inj.mp h.symm))]
theorem ru_iushr2 {x y : Int32} (hd : ruDec M pc (.iushr) 1 pc2) (k : ruW E M d Q pc2 L (.int (ruushr x y) :: st) A) : ruW E M d Q pc L (.int y :: .int x :: st) A := ru_iushr hd k
theorem ru_iretP {v r : Int32} (hd : ruDec M pc .ireturn 1 pc2) (hr : M.2.2.2 = some .int) (h : some v = some r) : ruW E M d (ruPr r A) pc L [.int v] A := by
  cases h
  exact ru_iret hd hr ⟨rfl, rfl⟩
theorem ru_zretP {v r : Int32} (hd : ruDec M pc .ireturn 1 pc2) (hr : M.2.2.2 = some .boolean) (hz : v = 0 ∨ v = 1) (h : some v = some r) : ruW E M d (ruPr r A) pc L [.int v] A := by
  cases h
  exact ru_zret hd hr (by rcases hz with rfl | rfl <;> rfl) ⟨rfl, rfl⟩
theorem ru_iretW {v r : Int32} {B : ruA} (hd : ruDec M pc .ireturn 1 pc2) (hr : M.2.2.2 = some .int) (h : some (v, A) = some (r, B)) : ruW E M d (ruPr r B) pc L [.int v] A := by
  cases h
  exact ru_iret hd hr ⟨rfl, rfl⟩
theorem ru_zretW {v r : Int32} {B : ruA} (hd : ruDec M pc .ireturn 1 pc2) (hr : M.2.2.2 = some .boolean) (hz : v = 0 ∨ v = 1) (h : some (v, A) = some (r, B)) : ruW E M d (ruPr r B) pc L [.int v] A := by
  cases h
  exact ru_zret hd hr (by rcases hz with rfl | rfl <;> rfl) ⟨rfl, rfl⟩
theorem ru_vretW {B : ruA} (hd : ruDec M pc .return_ 1 pc2) (hr : M.2.2.2 = none) (h : some A = some B) : ruW E M d (ruPv B) pc L [] A := by
  cases h
  exact ru_vret hd hr ⟨rfl, rfl⟩
theorem ru_vretU {u : Unit} (hd : ruDec M pc .return_ 1 pc2) (hr : M.2.2.2 = none) (_h : some () = some u) : ruW E M d (ruPv A) pc L [] A := ru_vret hd hr ⟨rfl, rfl⟩
theorem ru_putI2 {idx k ci j : Nat} {v : Int32} {B : ruA} (hd : ruDec M pc (.putfield idx) 3 pc2) (hf : ruFd M.1.cls idx ci j true) (hp : ruFp ci j .int) (ho : rush k = some (.inl ci)) (hv : some (ruset A k j v) = some B) (kk : ruW E M d Q pc2 L st B) : ruW E M d Q pc L (.int v :: rurf E k :: st) A := by
  cases hv
  exact ru_putI hd hf hp ho rfl rfl kk
theorem ru_putZ2 {idx k ci j : Nat} {v : Int32} {B : ruA} (hd : ruDec M pc (.putfield idx) 3 pc2) (hf : ruFd M.1.cls idx ci j true) (hp : ruFp ci j .boolean) (ho : rush k = some (.inl ci)) (hz : v = 0 ∨ v = 1) (hv : some (ruset A k j v) = some B) (kk : ruW E M d Q pc2 L st B) : ruW E M d Q pc L (.int v :: rurf E k :: st) A := by
  cases hv
  exact ru_putI hd hf hp ho (by rcases hz with rfl | rfl <;> rfl) (by rcases hz with rfl | rfl <;> rfl) kk
theorem ru_putT2 {idx r : Nat} {B : ruA} (hd : ruDec M pc (.putfield idx) 3 pc2) (hf : ruFd M.1.cls idx 4 0 false) (hp : ruFp 4 0 (.array .int)) (hv : some (rusett A r) = some B) (kk : ruW E M d Q pc2 L st B) : ruW E M d Q pc L (rurf E r :: rurf E 70 :: st) A := by
  cases hv
  exact ru_putT hd hf hp kk
theorem ru_putM2 {idx r : Nat} {B : ruA} (hd : ruDec M pc (.putfield idx) 3 pc2) (hf : ruFd M.1.cls idx 4 7 false) (hp : ruFp 4 7 (.array .int)) (hv : some (rusetm A r) = some B) (kk : ruW E M d Q pc2 L st B) : ruW E M d Q pc L (rurf E r :: rurf E 70 :: st) A := by
  cases hv
  exact ru_putM hd hf hp kk
theorem ru_callSi {M2 : ruMD} {d2 idx : Nat} {as st0 : List Value} {r : Int32} {B : ruA} (hd : ruDec M pc (.invokestatic idx) 3 pc2) (hl : ruCS M.1.cls idx M2 as.length) (hc : ruC E M2 d2 as A (ruPr r B)) (hst : as.reverse ++ st = st0) (hdd : d2 + 1 ≤ d) (hroom : (st.map fun v => v.category).sum ≤ 8) (kk : ruW E M d Q pc2 L (.int r :: st) B) : ruW E M d Q pc L st0 A :=
  ru_callS hd hst hl hdd hroom hc (fun _ _ h => by obtain ⟨rfl, rfl⟩ := h; exact kk)
theorem ru_callSv {M2 : ruMD} {d2 idx : Nat} {as st0 : List Value} {B : ruA} (hd : ruDec M pc (.invokestatic idx) 3 pc2) (hl : ruCS M.1.cls idx M2 as.length) (hc : ruC E M2 d2 as A (ruPv B)) (hst : as.reverse ++ st = st0) (hdd : d2 + 1 ≤ d) (hroom : (st.map fun v => v.category).sum ≤ 8) (kk : ruW E M d Q pc2 L st B) : ruW E M d Q pc L st0 A :=
  ru_callS hd hst hl hdd hroom hc (fun _ _ h => by obtain ⟨rfl, rfl⟩ := h; exact kk)
theorem ru_callNi {M2 : ruMD} {d2 idx : Nat} {as st0 : List Value} {r : Int32} {B : ruA} (hd : ruDec M pc (.invokestatic idx) 3 pc2) (hl : ruCN M.1.cls idx M2 as.length) (hc : ruC E M2 d2 as A (ruPr r B)) (hst : as.reverse ++ st = st0) (hdd : d2 + 1 ≤ d) (hroom : (st.map fun v => v.category).sum ≤ 8) (kk : ruW E M d Q pc2 L (.int r :: st) B) : ruW E M d Q pc L st0 A :=
  ru_callN hd hst hl hdd hroom hc (fun _ _ h => by obtain ⟨rfl, rfl⟩ := h; exact kk)
theorem ru_callVi {M2 : ruMD} {d2 idx k ci : Nat} {as st0 : List Value} {r : Int32} {B : ruA} (hd : ruDec M pc (.invokevirtual idx) 3 pc2) (hl : ruCV M.1.cls idx M2 as.length ci) (ho : rush k = some (.inl ci)) (hc : ruC E M2 d2 (rurf E k :: as) A (ruPr r B)) (hst : as.reverse ++ rurf E k :: st = st0) (hdd : d2 + 1 ≤ d) (hroom : (st.map fun v => v.category).sum ≤ 8) (kk : ruW E M d Q pc2 L (.int r :: st) B) : ruW E M d Q pc L st0 A :=
  ru_callV hd hst hl ho hdd hroom hc (fun _ _ h => by obtain ⟨rfl, rfl⟩ := h; exact kk)
theorem ru_callVv {M2 : ruMD} {d2 idx k ci : Nat} {as st0 : List Value} {B : ruA} (hd : ruDec M pc (.invokevirtual idx) 3 pc2) (hl : ruCV M.1.cls idx M2 as.length ci) (ho : rush k = some (.inl ci)) (hc : ruC E M2 d2 (rurf E k :: as) A (ruPv B)) (hst : as.reverse ++ rurf E k :: st = st0) (hdd : d2 + 1 ≤ d) (hroom : (st.map fun v => v.category).sum ≤ 8) (kk : ruW E M d Q pc2 L st B) : ruW E M d Q pc L st0 A :=
  ru_callV hd hst hl ho hdd hroom hc (fun _ _ h => by obtain ⟨rfl, rfl⟩ := h; exact kk)
end RUT
