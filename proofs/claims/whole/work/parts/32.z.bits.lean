/-! LEVEL 2: bits -/
/-- bit k of a number -/
def bt (x : Int32) (k : Nat) : Bool := x.toBitVec.getLsbD k
theorem sh_nat : ∀ k, k < 32 → (((iN k).toUInt32 &&& Int32.toUInt32 31).toBitVec % 32).toNat = k := by decide
theorem sh_natS : ∀ k, k < 32 → ((iN k &&& 31).toBitVec.smod 32).toNat = k := by decide
theorem ushr_bv {x : Int32} {k : Nat} (hk : k < 32) : (ruushr x (iN k)).toBitVec = x.toBitVec >>> k := by
  unfold ruushr
  show (x.toUInt32 >>> ((iN k).toUInt32 &&& Int32.toUInt32 31)).toBitVec = _
  rw [UInt32.toBitVec_shiftRight, BitVec.ushiftRight_eq', sh_nat k hk]
  rfl
theorem shr_bv {x : Int32} {k : Nat} (hk : k < 32) : (x >>> (iN k &&& 31)).toBitVec = x.toBitVec.sshiftRight k := by
  rw [Int32.toBitVec_shiftRight, BitVec.sshiftRight', sh_natS k hk]
theorem shl_bv {x : Int32} {k : Nat} (hk : k < 32) : (x <<< (iN k &&& 31)).toBitVec = x.toBitVec <<< k := by
  rw [Int32.toBitVec_shiftLeft, BitVec.shiftLeft_eq', sh_natS k hk]
theorem and1 (v : Int32) : v &&& 1 = 1 ↔ bt v 0 = true := by
  rw [← Int32.toBitVec_inj, Int32.toBitVec_and]
  show v.toBitVec &&& 1#32 = 1#32 ↔ v.toBitVec.getLsbD 0 = true
  rw [BitVec.and_one_eq_setWidth_ofBool_getLsbD]
  cases v.toBitVec.getLsbD 0 <;> decide
theorem and1b (v : Int32) : v &&& 1 = if bt v 0 = true then 1 else 0 := by
  rw [← Int32.toBitVec_inj, Int32.toBitVec_and]
  show v.toBitVec &&& 1#32 = _
  rw [BitVec.and_one_eq_setWidth_ofBool_getLsbD]
  unfold bt
  cases v.toBitVec.getLsbD 0 <;> rfl
theorem bt_ushr {x : Int32} {k : Nat} (hk : k < 32) : bt (ruushr x (iN k)) 0 = bt x k := by
  unfold bt
  rw [ushr_bv hk, BitVec.getLsbD_ushiftRight, Nat.add_zero]
theorem bt_shr {x : Int32} {k : Nat} (hk : k < 32) : bt (x >>> (iN k &&& 31)) 0 = bt x k := by
  unfold bt
  rw [shr_bv hk, BitVec.getLsbD_sshiftRight]
  simp [hk]
theorem e10_has {x : Int32} {k : Nat} (hk : k < 32) : fX10_has x (iN k) = some (b2 (bt x k = true)) := by
  unfold fX10_has b2
  simp only [and1, bt_ushr hk]
  split <;> rfl
theorem e11_has {x : Int32} {k : Nat} (hk : k < 32) : fX11_has x (iN k) = some (b2 (bt x k = true)) := by
  unfold fX11_has b2
  simp only [and1, bt_shr hk]
  split <;> rfl
theorem bt_or (x y : Int32) (k : Nat) : bt (x ||| y) k = (bt x k || bt y k) := by
  unfold bt
  rw [Int32.toBitVec_or, BitVec.getLsbD_or]
theorem bt_and (x y : Int32) (k : Nat) : bt (x &&& y) k = (bt x k && bt y k) := by
  unfold bt
  rw [Int32.toBitVec_and, BitVec.getLsbD_and]
theorem bt_xor (x y : Int32) (k : Nat) : bt (x ^^^ y) k = (bt x k ^^ bt y k) := by
  unfold bt
  rw [Int32.toBitVec_xor, BitVec.getLsbD_xor]
theorem bt_m1 {k : Nat} (hk : k < 32) : bt (-1) k = true := by
  have : ∀ k, k < 32 → bt (-1) k = true := by decide
  exact this k hk
theorem bt_zero (k : Nat) : bt 0 k = false := by
  unfold bt
  show (0#32).getLsbD k = false
  simp
theorem bt_ge {x : Int32} {k : Nat} (hk : 32 ≤ k) : bt x k = false := BitVec.getLsbD_of_ge _ _ hk
theorem bt_bit {q k : Nat} (hq : q < 32) : bt (1 <<< (iN q &&& 31)) k = decide (k = q) := by
  unfold bt
  rw [shl_bv hq, BitVec.getLsbD_shiftLeft]
  show (decide (k < 32) && !decide (k < q) && (1#32).getLsbD (k - q)) = _
  rw [BitVec.getLsbD_one]
  by_cases h : k = q
  · subst h
    simp [hq]
  · by_cases h2 : k < q
    · simp [h, h2]
    · have : ¬ (k - q = 0) := by omega
      simp [h, this]
theorem bt_ext {x y : Int32} (h : ∀ k, k < 32 → bt x k = bt y k) : x = y := by
  rw [← Int32.toBitVec_inj]
  exact BitVec.eq_of_getLsbD_eq fun k hk => h k hk
/-- a bit put in changes something just if it wasn't there -/
theorem or_bit_eq {x : Int32} {q : Nat} (hq : q < 32) : (x ||| (1 <<< (iN q &&& 31)) = x) ↔ bt x q = true := by
  constructor
  · intro h
    have := congrArg (fun z => bt z q) h
    simp only [bt_or, bt_bit hq, decide_true, Bool.or_true] at this
    exact this.symm
  · intro h
    refine bt_ext fun k _ => ?_
    rw [bt_or, bt_bit hq]
    by_cases e : k = q
    · subst e
      simp [h]
    · simp [e]
theorem ite00 {α : Type} (a b : α) : (if (0 : Int32) = 0 then a else b) = a := if_pos rfl
theorem ite10 {α : Type} (a b : α) : (if (1 : Int32) = 0 then a else b) = b := if_neg (by decide)
theorem b2_ne {p : Prop} [Decidable p] {α : Type} (a b : α) : (if b2 p = 0 then a else b) = if p then b else a := by
  by_cases h : p
  · rw [b2_pos h, if_neg (by decide), if_pos h]
  · rw [b2_neg h, if_pos rfl, if_neg h]
theorem fndC_84 (A : ruA) (j : Nat) : (fndC A j).1 84 = A.1 84 := rfl
theorem fndC_83 (A : ruA) (j : Nat) : (fndC A j).1 83 = A.1 83 := rfl
theorem fndC_88 (A : ruA) (j : Nat) : (fndC A j).1 88 = A.1 88 := rfl
theorem fndC_89 (A : ruA) (j : Nat) : (fndC A j).1 89 = A.1 89 := rfl
theorem fndC_90 (A : ruA) (j : Nat) : (fndC A j).1 90 = A.1 90 := rfl
theorem e11_is1f (x : Int32) (A : ruA) (j : Nat) : fX11_is x 1 (fndC A j) = some (b2 (0 ≤ x ∧ x ≤ A.1 84 1 - 1)) := e11_is1 x (fndC A j)
theorem e11_is2f (x : Int32) (A : ruA) (j : Nat) : fX11_is x 2 (fndC A j) = some (b2 (0 ≤ x ∧ x ≤ A.1 84 2 - 1)) := e11_is2 x (fndC A j)
theorem e11_is3f (x : Int32) (A : ruA) (j : Nat) : fX11_is x 3 (fndC A j) = some (b2 (0 ≤ x ∧ x ≤ A.1 84 3 - 1)) := e11_is3 x (fndC A j)
