/-! LEVEL 3: the classes that the tables know -/
theorem st_K (l : Launch) {args : Array Value} {s : State} {u v : Nat} {adK adV : Nat → Nat} (hts : ∀ w ∈ lw_tbl, w.before args s = true) (hst : ruSt s u v adK adV) : ∃ (D : va_G) (kc : Nat → ClassId), cnRO (l, D, kc, adK) s := by
  obtain ⟨c0, i0, h0⟩ := u_known (C := ruR0) (T := ruT0) (N := 5) (n := 5) hts ruin0 (hts _ (ru_mt 30 (by decide +kernel)))
  obtain ⟨c1, i1, h1⟩ := u_known (C := ruR1) (T := ruT1) (N := 3) (n := 3) hts ruin1 (hts _ (ru_mt 157 (by decide +kernel)))
  obtain ⟨c2, i2, h2⟩ := u_known (C := ruR2) (T := ruT2) (N := 6) (n := 6) hts ruin2 (hts _ (ru_mt 131 (by decide +kernel)))
  obtain ⟨c3, i3, h3⟩ := u_known (C := ruR3) (T := ruT3) (N := 4) (n := 4) hts ruin3 (hts _ (ru_mt 195 (by decide +kernel)))
  obtain ⟨c4, i4, h4⟩ := u_known (C := ruR4) (T := ruT4) (N := 9) (n := 9) hts ruin4 (hts _ (ru_mt 258 (by decide +kernel)))
  obtain ⟨c5, i5, h5⟩ := u_known (C := ruR5) (T := ruT5) (N := 9) (n := 9) hts ruin5 (hts _ (ru_mt 36 (by decide +kernel)))
  obtain ⟨c6, i6, h6⟩ := u_known (C := ruR6) (T := ruT6) (N := 4) (n := 4) hts ruin6 (hts _ (ru_mt 87 (by decide +kernel)))
  obtain ⟨c7, i7, h7⟩ := u_known (C := ruR7) (T := ruT7) (N := 3) (n := 3) hts ruin7 (hts _ (ru_mt 293 (by decide +kernel)))
  obtain ⟨c8, i8, h8⟩ := u_known (C := ruR8) (T := ruT8) (N := 10) (n := 10) hts ruin8 (hts _ (ru_mt 201 (by decide +kernel)))
  obtain ⟨c9, i9, h9⟩ := u_known (C := ruR9) (T := ruT9) (N := 3) (n := 3) hts ruin9 (hts _ (ru_mt 110 (by decide +kernel)))
  obtain ⟨c10, i10, h10⟩ := u_known (C := ruR10) (T := ruT10) (N := 13) (n := 13) hts ruin10 (hts _ (ru_mt 22 (by decide +kernel)))
  obtain ⟨c11, i11, h11⟩ := u_known (C := ruR11) (T := ruT11) (N := 25) (n := 25) hts ruin11 (hts _ (ru_mt 964 (by decide +kernel)))
  obtain ⟨k0, a0, p0, a1, a2, a3⟩ := Cond.arrayClass_spec (type := .int) (hts _ (ru_mt 85 (by decide +kernel)))
  obtain ⟨k1, b0, p1, b1, b2, b3⟩ := Cond.arrayClass_spec (type := .boolean) (hts _ (ru_mt 108 (by decide +kernel)))
  obtain ⟨k2, d0, p2, d1, d2, d3⟩ := Cond.arrayClass_spec (type := .long) (hts _ (ru_mt 241 (by decide +kernel)))
  have w3 := hts (.arrayOver (.object "RubbedSheets$Slip")) (ru_mt 292 (by decide +kernel))
  have w5 := hts (.arrayOver (.object "java/lang/String")) (ru_mt 970 (by decide +kernel))
  obtain ⟨p3, k3, e0, e1, -, e2, e3, e4⟩ := Cond.arrayOver_spec w3
  obtain ⟨p4, k4, f0, f1, -, f2, f3, f4⟩ := arrayOverA_spec (t := .int) (hts _ (ru_mt 116 (by decide +kernel)))
  obtain ⟨p5, k5, g0, g1, -, g2, g3, g4⟩ := Cond.arrayOver_spec w5
  have ep : p4 = k0 := Option.some.inj (f1.symm.trans a1)
  subst ep
  refine ⟨(fun k => [c0, c1, c2, c3, c4, c5, c6, c7, c8, c9, c10, c11].getD k 0, fun k => [i0, i1, i2, i3, i4, i5, i6, i7, i8, i9, i10, i11].getD k (fun _ => 0)), fun k => [p4, k1, k2, k3, k4, k5].getD k 0, ⟨fun k q hq => ?_, fun k q hq => ?_⟩, ⟨?_, ⟨f0, f2, f3⟩, a0, p0, a2, a3⟩, va_AO.of w3, va_AO.of w5, fun w hw => va_Nw.of (cnNe_in w hw).2 (hts _ (cnNe_in w hw).1), ?_⟩
  · match k, hq with
    | 0, hq => cases hq; exact h0
    | 1, hq => cases hq; exact h1
    | 2, hq => cases hq; exact h2
    | 3, hq => cases hq; exact h3
    | 4, hq => cases hq; exact h4
    | 5, hq => cases hq; exact h5
    | 6, hq => cases hq; exact h6
    | 7, hq => cases hq; exact h7
    | 8, hq => cases hq; exact h8
    | 9, hq => cases hq; exact h9
    | 10, hq => cases hq; exact h10
    | 11, hq => cases hq; exact h11
    | k + 12, hq => simp [rucl] at hq
  · match k, hq with
    | 0, hq =>
      have hq : some (p4, FieldType.int) = some q := hq
      cases hq
      exact ⟨fun n z => ⟨fun k h => (by cases h), a0, a2, p0, a3⟩, a1⟩
    | 1, hq =>
      have hq : some (k1, FieldType.boolean) = some q := hq
      cases hq
      exact ⟨fun n z => ⟨fun k h => (by cases h), b0, b2, p1, b3⟩, b1⟩
    | 2, hq =>
      have hq : some (k2, FieldType.long) = some q := hq
      cases hq
      exact ⟨fun n z => ⟨fun k h => (by cases h), d0, d2, p2, d3⟩, d1⟩
    | 3, hq =>
      have hq : some (k3, FieldType.object "RubbedSheets$Slip") = some q := hq
      cases hq
      exact ⟨fun n z => ⟨fun k h => (by cases h), e0, e2, p3, e3⟩, e0, p3, e2, e3, e1, e4⟩
    | 4, hq =>
      have hq : some (k4, FieldType.array .int) = some q := hq
      cases hq
      exact ⟨fun n z => ⟨fun k h => (by cases h), f0, f2, p4, f3⟩, f4⟩
    | 5, hq =>
      have hq : some (k5, FieldType.object "java/lang/String") = some q := hq
      cases hq
      exact ⟨fun n z => ⟨fun k h => (by cases h), g0, g2, p5, g3⟩, g0, p5, g2, g3, g1, g4⟩
    | k + 6, hq => simp [cnty] at hq
  · have e9 : ("[" ++ (FieldType.array .int).toString) = "[[I" := by decide
    rw [e9] at f4
    exact f4
  · obtain ⟨-, -, -, -, -, -, -, t0, t1, t2, t3, t4, t5⟩ := hst
    exact ⟨t0, t1, t2, t3, t4, t5⟩
