/-! LEVEL 2: how many bits, both -/
theorem cN_more {p : Nat → Prop} [DecidablePred p] (n : Nat) : ∀ m, cN p (n + m) = cN p n + cN (fun j => p (n + j)) m
  | 0 => rfl
  | m + 1 => by
    show cN p (n + m) + (if p (n + m) then 1 else 0) = cN p n + (cN (fun j => p (n + j)) m + if p (n + m) then 1 else 0)
    rw [cN_more n m, Nat.add_assoc]
theorem cN_congr {p q : Nat → Prop} [DecidablePred p] [DecidablePred q] : ∀ n, (∀ j, j < n → (p j ↔ q j)) → cN p n = cN q n
  | 0, _ => rfl
  | n + 1, h => by
    show cN p n + (if p n then 1 else 0) = cN q n + (if q n then 1 else 0)
    rw [cN_congr n (fun j hj => h j (by omega))]
    by_cases c : p n
    · rw [if_pos c, if_pos ((h n (by omega)).mp c)]
    · rw [if_neg c, if_neg (fun c2 => c ((h n (by omega)).mpr c2))]
/-- how many bits -/
def pc24 (x : Int32) : Nat := cN (fun k => bt x k = true) 24
theorem bt_iN {x k : Nat} (hk : k < 32) : bt (iN x) k = x.testBit k := by
  unfold bt
  rw [bv_iN, BitVec.getLsbD_ofNat]
  simp [hk]
theorem f11_bits (x : Int32) : fX11_bits x = some (iN (pc24 x)) := by
  unfold fX11_bits pc24
  rw [← cN_sum]
  refine loop_sum (fun n k z => fX11_bits_l4 x (fun v1 => some v1) n z (iN k)) 24 _ (fun v => some v) ?_ ?_ ruF (by decide)
  · intro n z
    show fX11_bits_l4 x (fun v1 => some v1) (n + 1) z (iN 24) = _
    rw [fX11_bits_l4, if_pos (by decide)]
  · intro n k z hk
    have e : (x >>> (iN k &&& 31)) &&& 1 = b2 (bt x k = true) := by
      rw [and1b, bt_shr (by omega)]
      rfl
    rw [fX11_bits_l4, li24, if_neg (by rw [iN_le (by omega) (by omega)]; omega), e, iN_add1]
theorem pc24_bytes {b0 b1 b2 : Nat} (h0 : b0 < 256) (h1 : b1 < 256) (h2 : b2 < 256) : pc24 (iN (b0 + 256 * (b1 + 256 * b2))) = pcb b0 + pcb b1 + pcb b2 := by
  have t0 : ∀ a r j : Nat, a < 256 → j < 8 → (a + 256 * r).testBit j = a.testBit j := by
    intro a r j ha hj
    have h := Nat.testBit_mod_two_pow (a + 256 * r) 8 j
    rw [show (a + 256 * r) % 2 ^ 8 = a by omega] at h
    rw [h]
    simp [hj]
  have t1 : ∀ a r j : Nat, a < 256 → (a + 256 * r).testBit (8 + j) = r.testBit j := by
    intro a r j ha
    have h := Nat.testBit_div_two_pow (n := 8) (a + 256 * r) j
    rw [show (a + 256 * r) / 2 ^ 8 = r by omega] at h
    rw [h, Nat.add_comm 8 j]
  unfold pc24 pcb
  rw [show (24 : Nat) = 8 + (8 + 8) from rfl, cN_more, cN_more, ← Nat.add_assoc]
  have e0 : cN (fun k => bt (iN (b0 + 256 * (b1 + 256 * b2))) k = true) 8 = cN (fun k => b0.testBit k = true) 8 := cN_congr 8 fun j hj => by
    rw [bt_iN (by omega), t0 _ _ _ h0 hj]
  have e1 : cN (fun j => bt (iN (b0 + 256 * (b1 + 256 * b2))) (8 + j) = true) 8 = cN (fun k => b1.testBit k = true) 8 := cN_congr 8 fun j hj => by
    rw [bt_iN (by omega), t1 _ _ _ h0, t0 _ _ _ h1 hj]
  have e2 : cN (fun j => bt (iN (b0 + 256 * (b1 + 256 * b2))) (8 + (8 + j)) = true) 8 = cN (fun k => b2.testBit k = true) 8 := cN_congr 8 fun j hj => by
    rw [bt_iN (by omega), t1 _ _ _ h0, t1 _ _ _ h1]
  rw [e0, e1, e2]
theorem f10_bits {x : Int32} (h : ∀ j, 24 ≤ j → bt x j = false) : fJ6_bitCount_0f7a4 x = some (iN (pc24 x)) := by
  obtain ⟨v, hv, rfl⟩ : ∃ v, v < 16777216 ∧ x = iN v := by
    refine ⟨x.toBitVec.toNat, ?_, ?_⟩
    · refine Nat.lt_pow_two_of_testBit (n := 24) _ fun i hi => ?_
      rw [BitVec.testBit_toNat]
      exact h i hi
    · unfold iN
      rw [Int32.ofNat_bitVecToNat]
      rfl
  obtain ⟨b0, b1, b2, h0, h1, h2, rfl⟩ : ∃ b0 b1 b2, b0 < 256 ∧ b1 < 256 ∧ b2 < 256 ∧ v = b0 + 256 * (b1 + 256 * b2) := ⟨v % 256, v / 256 % 256, v / 65536, by omega, by omega, by omega, by omega⟩
  rw [bc24 h0 h1 h2, pc24_bytes h0 h1 h2]
theorem pc24_le (x : Int32) : pc24 x ≤ 24 := cN_le 24
