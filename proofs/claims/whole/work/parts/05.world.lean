/-! THE WORLD: 97 cells, by the order in which the constructors make them (0: the class, 83: the reference); 97 to 102 the texts, 103 the table of names, 104 the table of kinds, 105 to 110 the texts' bytes, all read only -/
abbrev ruE : Type := Launch × va_G × (Nat → Nat) × (Nat → ClassId)
abbrev ruA : Type := (Nat → Nat → Int32) × (Nat → Nat → Int64) × Nat × Nat
def rurf (E : ruE) (k : Nat) : Value := .ref (E.2.2.1 k)
/-- an object of a class, or an array of a kind (0 int, 1 boolean, 2 long, 3 slips, 4 rows, 5 texts) and a length -/
def rushL : List (Nat ⊕ (Nat × Nat)) := [.inl 10, .inl 0, .inl 5, .inr (0, 12), .inr (0, 12), .inr (0, 24), .inr (0, 24), .inr (0, 24), .inr (0, 24), .inl 6, .inr (1, 144), .inr (0, 1728), .inr (0, 1728), .inr (0, 432), .inl 9, .inr (4, 6), .inr (0, 100), .inr (0, 100), .inr (0, 100), .inr (0, 100), .inr (0, 100), .inr (0, 100), .inr (0, 6), .inl 2, .inr (0, 30), .inr (0, 30), .inr (0, 30), .inr (0, 30), .inr (0, 10), .inl 1, .inr (0, 8), .inr (0, 8), .inl 0, .inl 5, .inr (0, 12), .inr (0, 12), .inr (0, 24), .inr (0, 24), .inr (0, 24), .inr (0, 24), .inl 6, .inr (1, 144), .inr (0, 1728), .inr (0, 1728), .inr (0, 432), .inl 9, .inr (4, 6), .inr (0, 100), .inr (0, 100), .inr (0, 100), .inr (0, 100), .inr (0, 100), .inr (0, 100), .inr (0, 6), .inl 2, .inr (0, 30), .inr (0, 30), .inr (0, 30), .inr (0, 30), .inr (0, 10), .inl 1, .inr (0, 8), .inr (0, 8), .inl 3, .inr (0, 6), .inl 8, .inr (0, 24), .inr (2, 24), .inr (0, 24), .inr (0, 6), .inl 4, .inr (0, 6), .inr (0, 100), .inr (3, 4), .inl 7, .inr (0, 24), .inl 7, .inr (0, 24), .inl 7, .inr (0, 24), .inl 7, .inr (0, 24), .inr (0, 7), .inl 11, .inr (0, 4920), .inr (0, 4920), .inr (0, 7), .inr (0, 100), .inr (0, 4), .inr (0, 4), .inr (0, 96), .inr (5, 6), .inr (0, 200), .inr (0, 200), .inr (0, 6), .inr (1, 6), .inr (0, 24)]
def rush (k : Nat) : Option (Nat ⊕ (Nat × Nat)) := rushL[k]?
/-- the static references -/
def ruRL : List (List (Option Nat)) := [[some 1, some 32, none, some 2, some 9, some 63, some 69, some 70, some 72, none, some 73, some 82, none], [some 2, some 9, some 14, some 23, some 29], [none, none, none, some 3, some 4, some 5, some 6, some 7, some 8], [], [], [], [], [], [], [some 10, some 11, some 12, some 13], [], [], [], [], [none, some 15, some 22], [some 16, some 17, some 18, some 19, some 20, some 21], [], [], [], [], [], [], [], [none, some 24, some 25, some 26, some 27, some 28], [], [], [], [], [], [none, some 30, some 31], [], [], [some 33, some 40, some 45, some 54, some 60], [none, none, none, some 34, some 35, some 36, some 37, some 38, some 39], [], [], [], [], [], [], [some 41, some 42, some 43, some 44], [], [], [], [], [none, some 46, some 53], [some 47, some 48, some 49, some 50, some 51, some 52], [], [], [], [], [], [], [], [none, some 55, some 56, some 57, some 58, some 59], [], [], [], [], [], [none, some 61, some 62], [], [], [some 65, some 64, some 2, some 9], [], [none, none, none, none, none, some 66, some 67, some 68, some 2, some 9], [], [], [], [], [none, none, none, none, none, none, none, none, none], [], [], [some 74, some 76, some 78, some 80], [none, none, some 75], [], [none, none, some 77], [], [none, none, some 79], [], [none, none, some 81], [], [], [some 84, some 85, none, none, some 86, some 87, none, some 88, some 89, some 90, none, none, none, some 91, none, none, none, none, none, some 92, none, some 93, some 94, some 95, some 96], [], [], [], [], [], [], [], [some 97, some 98, some 99, some 100, some 101, some 102], [], [], [], [], []]
def ruref (A : ruA) (k j : Nat) : Option Nat := if k = 70 then (if j = 0 then some A.2.2.1 else if j = 7 then some A.2.2.2 else if j = 8 then some 71 else none) else (ruRL.getD k []).getD j none
/-- a class's fields: is it a number? -/
def ruft : Nat → List Bool := fun k => match k with
  | 0 => [false, false, false, false, false]
  | 1 => [true, false, false]
  | 2 => [true, false, false, false, false, false]
  | 3 => [false, false, false, false]
  | 4 => [false, true, true, true, true, true, true, false, false]
  | 5 => [true, true, true, false, false, false, false, false, false]
  | 6 => [false, false, false, false]
  | 7 => [true, true, false]
  | 8 => [true, true, true, true, true, false, false, false, false, false]
  | 9 => [true, false, false]
  | 10 => [false, false, true, false, false, false, false, false, false, true, false, false, true]
  | _ => [false, false, true, true, false, false, true, false, false, false, true, true, true, false, true, true, true, true, true, false, true, false, false, false, false]
def rufs (E : ruE) (A : ruA) (k : Nat) : List Bool → Nat → List Value
  | [], _ => []
  | b :: bs, j => (match b with
    | true => Value.int (A.1 k j)
    | false => va_rf ((ruref A k j).map E.2.2.1)) :: rufs E A k bs (j + 1)
def ruct (E : ruE) (A : ruA) (k kd : Nat) : (Nat → Int32) ⊕ (Nat → Int64) ⊕ (Nat → UInt32) ⊕ (Nat → UInt64) ⊕ (Nat → Option Nat) := match kd with
  | 0 => .inl (A.1 k)
  | 1 => .inl (A.1 k)
  | 2 => .inr (.inl (A.2.1 k))
  | _ => .inr (.inr (.inr (.inr (fun i => (ruref A k i).map E.2.2.1))))
def rucell (E : ruE) (A : ruA) (k : Nat) : va_E := match rush k with
  | some (.inl ci) => .inr (ci, rufs E A k (ruft ci) 0)
  | some (.inr q) => .inl (E.2.2.2 q.1, q.2, ruct E A k q.1)
  | none => .inr (0, [])
def ruws (E : ruE) (A : ruA) : va_W := (List.range 97).map fun k => (E.2.2.1 k, rucell E A k)
def ruIn (E : ruE) : Nat → Prop := fun q => ∃ k, k < 97 ∧ q = E.2.2.1 k
def rutyk : Nat → FieldType := fun k => match k with
  | 0 => .int
  | 1 => .boolean
  | 2 => .long
  | 3 => .object "RubbedSheets$Slip"
  | 4 => .array .int
  | _ => .object "java/lang/String"
def rutys (E : ruE) : List (ClassId × FieldType) := (List.range 6).map fun k => (E.2.2.2 k, rutyk k)
def ruinj (E : ruE) : Prop := ∀ i j, i < 97 → j < 97 → E.2.2.1 i = E.2.2.1 j → i = j
def ruNe : List Cond := [.methodLinkNest "RubbedSheets$School" 46 ⟨"RubbedSheets", "has", "(II)Z"⟩ "RubbedSheets", .methodLinkNest "RubbedSheets$Slip" 28 ⟨"RubbedSheets", "isWithin", "(III)Z"⟩ "RubbedSheets", .methodLinkNest "RubbedSheets$Sheets" 51 ⟨"RubbedSheets", "has", "(II)Z"⟩ "RubbedSheets", .methodLinkNest "RubbedSheets$Strings" 79 ⟨"RubbedSheets", "has", "(II)Z"⟩ "RubbedSheets", .methodLinkNest "RubbedSheets$Measures" 95 ⟨"RubbedSheets", "has", "(II)Z"⟩ "RubbedSheets", .methodLinkNest "RubbedSheets$Measures" 98 ⟨"RubbedSheets", "isWithin", "(III)Z"⟩ "RubbedSheets", .methodLinkNest "RubbedSheets$Forms" 32 ⟨"RubbedSheets", "has", "(II)Z"⟩ "RubbedSheets", .fieldLinkNest "RubbedSheets$Sheets" 45 "RubbedSheets" "UNDER" "[I" "RubbedSheets", .fieldLinkNest "RubbedSheets$Forms" 36 "RubbedSheets" "UNDER" "[I" "RubbedSheets"]
def ruunder : List Int32 := [255, 134, 4, 8, 16, 96, 64, 128]
def runames : List Int32 := [30578, 29303, 7499639, 6711668, 1717660780, 1936292453]
def rulens : List Nat := [2, 2, 3, 3, 4, 4]
def rubyt : List (List Int32) := [[119, 114], [114, 119], [114, 111, 119], [102, 105, 116], [102, 97, 108, 108], [115, 105, 122, 101]]
/-- what is read and never written -/
def ruRO (E : ruE) (s : State) : Prop :=
  va_Z "RubbedSheets" "UNDER" "[I" (.ref (E.2.2.1 104)) (ruIn E) s s.heap ∧ va_T .int (E.2.2.1 104) 8 (fun j => .int (ruunder.getD j 0)) (ruIn E) s s.heap ∧
  vk_S 6 rulens rubyt (fun i => E.2.2.1 (97 + i)) (fun i => E.2.2.1 (105 + i)) (ruIn E) s s.heap ∧ (va_Z "RubbedSheets$Reader" "NAMES" "[I" (.ref (E.2.2.1 103)) (ruIn E) s s.heap ∧ va_T .int (E.2.2.1 103) 6 (fun j => .int (runames.getD j 0)) (ruIn E) s s.heap) ∧
  va_Z "java/lang/String" "COMPACT_STRINGS" "Z" (.int 1) (ruIn E) s s.heap ∧ va_Zq "jdk/internal/util/Preconditions" "SIOOBE_FORMATTER" "Ljava/util/function/BiFunction;" (ruIn E) s s.heap ∧ ∀ w ∈ ruNe, va_Nw w s
/-! the world's list -/
theorem ruws_at (E : ruE) (A : ruA) {k : Nat} (h : k < 97) : (ruws E A)[k]? = some (E.2.2.1 k, rucell E A k) := by
  unfold ruws
  rw [List.getElem?_map, List.getElem?_range h]
  rfl
theorem rush_lt {k : Nat} {x : Nat ⊕ (Nat × Nat)} (h : rush k = some x) : k < 97 := (List.getElem?_eq_some_iff.mp h).1
theorem rucell_o {E : ruE} {A : ruA} {k ci : Nat} (h : rush k = some (.inl ci)) : rucell E A k = .inr (ci, rufs E A k (ruft ci) 0) := by
  unfold rucell
  rw [h]
theorem rucell_a {E : ruE} {A : ruA} {k : Nat} {q : Nat × Nat} (h : rush k = some (.inr q)) : rucell E A k = .inl (E.2.2.2 q.1, q.2, ruct E A k q.1) := by
  unfold rucell
  rw [h]
theorem ruws_o {E : ruE} {A : ruA} {k ci : Nat} (h : rush k = some (.inl ci)) : (ruws E A)[k]? = some (E.2.2.1 k, .inr (ci, rufs E A k (ruft ci) 0)) := by
  rw [ruws_at E A (rush_lt h), rucell_o h]
theorem ruws_a {E : ruE} {A : ruA} {k : Nat} {q : Nat × Nat} (h : rush k = some (.inr q)) : (ruws E A)[k]? = some (E.2.2.1 k, .inl (E.2.2.2 q.1, q.2, ruct E A k q.1)) := by
  rw [ruws_at E A (rush_lt h), rucell_a h]
theorem ruws_len (E : ruE) (A : ruA) : (ruws E A).length = 97 := by simp [ruws]
theorem ruws_D {E : ruE} (A : ruA) (h : ruinj E) : va_D (ruIn E) (ruws E A) := by
  have key : ∀ (i : Nat) (p : Nat × va_E), (ruws E A)[i]? = some p → i < 97 ∧ p.1 = E.2.2.1 i := by
    intro i p hp
    have hi : i < 97 := by
      have := (List.getElem?_eq_some_iff.mp hp).1
      rwa [ruws_len] at this
    rw [ruws_at E A hi] at hp
    cases hp
    exact ⟨hi, rfl⟩
  refine ⟨fun i j p q hi hj e => ?_, fun k q hk => ⟨k, (key k q hk).1, (key k q hk).2⟩⟩
  exact h i j (key i p hi).1 (key j q hj).1 (by rw [← (key i p hi).2, ← (key j q hj).2]; exact e)
theorem ruws_set {E : ruE} {A A2 : ruA} {k : Nat} (hk : k < 97) (h : ∀ j, j ≠ k → rucell E A2 j = rucell E A j) : (ruws E A).set k (E.2.2.1 k, rucell E A2 k) = ruws E A2 := by
  apply List.ext_getElem?
  intro i
  by_cases hi : i < 97
  · rw [ruws_at E A2 hi]
    by_cases e : i = k
    · subst e
      rw [List.getElem?_set_self (by rw [ruws_len]; exact hi)]
    · rw [List.getElem?_set_ne (Ne.symm e), ruws_at E A hi, h i e]
  · rw [List.getElem?_eq_none (by rw [List.length_set, ruws_len]; omega), List.getElem?_eq_none (by rw [ruws_len]; omega)]
/-! stores -/
def rusetA (A : ruA) (k : Nat) (f : Nat → Int32) : ruA := (fun j => if j = k then f else A.1 j, A.2)
def ruset (A : ruA) (k j : Nat) (v : Int32) : ruA := rusetA A k (upd (A.1 k) j v)
def rusetL (A : ruA) (k j : Nat) (v : Int64) : ruA := (A.1, fun i => if i = k then vp_updL (A.2.1 k) j v else A.2.1 i, A.2.2)
def rusett (A : ruA) (t : Nat) : ruA := (A.1, A.2.1, t, A.2.2.2)
def rusetm (A : ruA) (m : Nat) : ruA := (A.1, A.2.1, A.2.2.1, m)
theorem rusetA_same (A : ruA) (k : Nat) (f : Nat → Int32) : (rusetA A k f).1 k = f := if_pos rfl
theorem rusetA_ne (A : ruA) {k j : Nat} (f : Nat → Int32) (h : j ≠ k) : (rusetA A k f).1 j = A.1 j := if_neg h
theorem rufs_cong {E : ruE} {A A2 : ruA} {k : Nat} (h1 : A2.1 k = A.1 k) (h2 : ∀ j, ruref A2 k j = ruref A k j) : ∀ (bs : List Bool) (j : Nat), rufs E A2 k bs j = rufs E A k bs j
  | [], _ => rfl
  | b :: bs, j => by
    unfold rufs
    rw [rufs_cong h1 h2 bs (j + 1), h1, h2]
theorem rucell_cong {E : ruE} {A A2 : ruA} {k : Nat} (h1 : A2.1 k = A.1 k) (h3 : A2.2.1 k = A.2.1 k) (h2 : ∀ j, ruref A2 k j = ruref A k j) : rucell E A2 k = rucell E A k := by
  unfold rucell
  cases rush k with
  | none => rfl
  | some x =>
    cases x with
    | inl ci => simp only [rufs_cong h1 h2]
    | inr q =>
      have e : ruct E A2 k q.1 = ruct E A k q.1 := by
        unfold ruct
        split
        · rw [h1]
        · rw [h1]
        · rw [h3]
        · simp only [h2]
      simp only [e]
theorem rufs_len (E : ruE) (A : ruA) (k : Nat) : ∀ (bs : List Bool) (j : Nat), (rufs E A k bs j).length = bs.length
  | [], _ => rfl
  | b :: bs, j => by simp [rufs, rufs_len E A k bs (j + 1)]
theorem rufs_get (E : ruE) (A : ruA) (k : Nat) : ∀ (bs : List Bool) (j i : Nat) {b : Bool}, bs[i]? = some b → (rufs E A k bs j)[i]? = some (match b with
    | true => Value.int (A.1 k (j + i))
    | false => va_rf ((ruref A k (j + i)).map E.2.2.1))
  | [], _, i, _, h => by simp at h
  | c :: bs, j, 0, b, h => by
    simp at h
    subst h
    simp [rufs]
  | c :: bs, j, i + 1, b, h => by
    simp at h
    have := rufs_get E A k bs (j + 1) i h
    show (_ :: rufs E A k bs (j + 1))[i + 1]? = _
    rw [List.getElem?_cons_succ, this]
    have e : j + 1 + i = j + (i + 1) := by omega
    rw [e]
theorem rufs_ext {E : ruE} {A A2 : ruA} {k : Nat} {v : Value} {i : Nat} : ∀ (bs : List Bool) (j : Nat), (∀ l, l ≠ j + i → A2.1 k l = A.1 k l) → (∀ l, l ≠ j + i → ruref A2 k l = ruref A k l) → (∀ b, bs[i]? = some b → v = match b with
    | true => Value.int (A2.1 k (j + i))
    | false => va_rf ((ruref A2 k (j + i)).map E.2.2.1)) → (rufs E A k bs j).set i v = rufs E A2 k bs j := by
  intro bs j h1 h2 h3
  apply List.ext_getElem?
  intro l
  by_cases hl : l < bs.length
  · have hb : bs[l]? = some bs[l] := List.getElem?_eq_getElem hl
    by_cases e : l = i
    · subst e
      rw [List.getElem?_set_self (by rw [rufs_len]; exact hl), rufs_get E A2 k bs j l hb]
      exact congrArg some (h3 _ hb)
    · rw [List.getElem?_set_ne (Ne.symm e), rufs_get E A k bs j l hb, rufs_get E A2 k bs j l hb]
      rw [h1 (j + l) (by omega), h2 (j + l) (by omega)]
  · rw [List.getElem?_eq_none (by rw [List.length_set, rufs_len]; omega), List.getElem?_eq_none (by rw [rufs_len]; omega)]
theorem ruref_ints (A : ruA) (f : Nat → Nat → Int32) (k j : Nat) : ruref (f, A.2) k j = ruref A k j := rfl
