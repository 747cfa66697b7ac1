/-! LEVEL 2: the class packs a sheet -/
theorem f8_pack {A : ruA} {N : Nat → Int32} (sh : shC A N) {c y i : Nat} (hs : 6 * c + y < 144) (hi : i < 24) (e4 : A.1 65 4 = iN i) : fX8_pack (iN (6 * c + y)) A = some (ruset (rusetL A 67 i (pkL (chA N y c) 12)) 68 i (pkF (chA N y c) 12)) := by
  unfold fX8_pack
  refine loop_inv (fun n q (z : Int64 × Int32) => fX8_pack_l8 (iN (6 * c + y)) A (fun v3 v4 => (rustL A 67 24 (A.1 65 4) v3).bind fun A5 => (rust A5 68 24 (A5.1 65 4) v4).bind fun A6 => some A6) n z.1 z.2 (iN q)) 12 (fun q => (pkL (chA N y c) q, pkF (chA N y c) q)) _ ?_ ?_ ruF 0 (by decide) (by decide)
  · intro n
    show fX8_pack_l8 (iN (6 * c + y)) A (fun v3 v4 => (rustL A 67 24 (A.1 65 4) v3).bind fun A5 => (rust A5 68 24 (A5.1 65 4) v4).bind fun A6 => some A6) (n + 1) (pkL (chA N y c) 12) (pkF (chA N y c) 12) (iN 12) = _
    rw [fX8_pack_l8, if_pos (by decide), e4, rustL_iN hi (by decide), Option.bind_some, show (rusetL A 67 i (pkL (chA N y c) 12)).1 65 4 = iN i from e4, rust_iN hi (by decide), Option.bind_some]
  · intro n q hq
    show fX8_pack_l8 (iN (6 * c + y)) A (fun v3 v4 => (rustL A 67 24 (A.1 65 4) v3).bind fun A5 => (rust A5 68 24 (A5.1 65 4) v4).bind fun A6 => some A6) (n + 1) (pkL (chA N y c) q) (pkF (chA N y c) q) (iN q) = fX8_pack_l8 (iN (6 * c + y)) A (fun v3 v4 => (rustL A 67 24 (A.1 65 4) v3).bind fun A5 => (rust A5 68 24 (A5.1 65 4) v4).bind fun A6 => some A6) n (pkL (chA N y c) q ||| chL (chA N y c q) q) (pkF (chA N y c) q ||| (if chA N y c q = -1 then (0 : Int32) else 1 <<< (iN q &&& 31))) (iN (q + 1))
    rw [fX8_pack_l8, li12, if_neg (by rw [iN_le (by omega) (by omega)]; omega), f10_choiceAt sh hs hq, Option.bind_some, ite_some, Option.bind_some, iN_add1 q]
    rfl
