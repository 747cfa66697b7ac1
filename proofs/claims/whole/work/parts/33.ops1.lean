/-! LEVEL 2: the first calls -/
theorem op_room {W : ruWy} {A : ruA} (hI : Inv W A) : Op2 W fX10_room fX11_room A := by
  obtain ⟨⟨hn, hq, hc, hs, hb, hr, hh, hf, hw⟩, -⟩ := id hI
  obtain ⟨m0, m1, m2, m3, m4, m5⟩ := id hn
  obtain ⟨n1, n2, n3⟩ := id m1
  generalize hr9 : cn (A.1 84) 1 = r at *
  have n1 : A.1 2 1 = A.1 84 1 := n1
  have e1 : (1 : Int32) = iN 1 := rfl
  by_cases h : r < 6
  · have hf1 : fX10_room A = some (iN r, ruset A 2 1 (iN (r + 1))) := by
      simp (disch := omega) only [fX10_room, n1, n2, li6, iN_lt, iN_add1, Option.bind_some, rs_1, upd_at, if_true, iN_sub1, Nat.add_sub_cancel, if_pos h]
    have hg1 : fX11_room (ruset A 2 1 (iN (r + 1))) = some (iN r, ruset (ruset A 2 1 (iN (r + 1))) 84 1 (iN (r + 1))) := by
      simp (disch := omega) [fX11_room, e1, ruld_iN, rust_iN, rs_1, upd_at, n2, li6, iN_inj, iN_add, iN_sub, Nat.ne_of_lt h]
    refine ⟨_, _, _, hf1, hg1, hI.now ?_ ?_⟩
    · refine ⟨fun k hk => by simp (disch := omega) only [rs_1, upd_at, if_pos, if_neg], ⟨rfl, rfl, rfl⟩, ⟨rfl, rfl, rfl⟩⟩
    · have e9 : cn ((ruset (ruset A 2 1 (iN (r + 1))) 84 1 (iN (r + 1))).1 84) 1 = r + 1 := cn_iN rfl (by omega)
      refine ⟨⟨m0, ⟨rfl, by rw [e9]; rfl, by rw [e9]; omega⟩, m2, m3, m4, m5⟩, hq.congr ⟨rfl, rfl⟩ fun i h1 h2 => (by simp (disch := omega) only [rs_1, upd_at, if_pos, if_neg]), hc.congr ⟨rfl, rfl, rfl, rfl⟩ (by simp (disch := omega) only [rs_1, upd_at, if_pos, if_neg]) fun i h1 h2 => (by simp (disch := omega) only [rs_1, upd_at, if_pos, if_neg]), hs.congr rfl (by simp (disch := omega) only [rs_1, upd_at, if_pos, if_neg]) fun i h1 => (by simp (disch := omega) only [rs_1, upd_at, if_pos, if_neg]), hb.congr ⟨rfl, rfl⟩ fun i h1 j h2 => (by simp (disch := omega) only [rs_1, upd_at, if_pos, if_neg]), hr.congr rfl fun i h1 j h2 => (by simp (disch := omega) only [rs_1, upd_at, if_pos, if_neg]), hh.congr ⟨rfl, rfl, rfl, rfl⟩ (by simp (disch := omega) only [rs_1, upd_at, if_pos, if_neg]) m4.2.2 fun i h1 h2 => (by simp (disch := omega) only [rs_1, upd_at, if_pos, if_neg]), hf.congr ⟨rfl, rfl⟩ (by simp (disch := omega) only [rs_1, upd_at, if_pos, if_neg]) m5.2.2 fun i h1 h2 => (by simp (disch := omega) only [rs_1, upd_at, if_pos, if_neg]), hw.congr (fun k h1 h2 => (by simp (disch := omega) only [rs_1, upd_at, if_pos, if_neg])) (by simp (disch := omega) only [rs_1, upd_at, if_pos, if_neg]) m3.2.2 fun i h1 h2 => (by simp (disch := omega) only [rs_1, upd_at, if_pos, if_neg])⟩
  · have h6 : r = 6 := by omega
    subst h6
    refine Op_find hI (-1000002) 1 (by decide) (by decide) ?_ ?_
    · simp (disch := omega) only [fX10_room, n1, n2, li6, iN_lt, Nat.lt_irrefl, if_false]
    · simp (disch := omega) [fX11_room, fndC, e1, ruld_iN, rust_iN, rs_1, upd_at, n2, li6, iN_inj]
theorem op_year {W : ruWy} {A : ruA} (hI : Inv W A) : Op2 W fX10_year fX11_year A := by
  obtain ⟨⟨hn, hq, hc, hs, hb, hr, hh, hf, hw⟩, -⟩ := id hI
  obtain ⟨m0, m1, m2, m3, m4, m5⟩ := id hn
  obtain ⟨n1, n2, n3⟩ := id m0
  generalize hr9 : cn (A.1 84) 0 = r at *
  have n1 : A.1 2 0 = A.1 84 0 := n1
  have e0 : (0 : Int32) = iN 0 := rfl
  by_cases h : r < 5
  · have hf1 : fX10_year A = some (iN (r + 1), ruset A 2 0 (iN (r + 1))) := by
      simp (disch := omega) only [fX10_year, n1, n2, li5, iN_lt, iN_add1, Option.bind_some, rs_1, upd_at, if_true, if_pos h]
    have hg1 : fX11_year (ruset A 2 0 (iN (r + 1))) = some (iN (r + 1), ruset (ruset A 2 0 (iN (r + 1))) 84 0 (iN (r + 1))) := by
      simp (disch := omega) [fX11_year, e0, ruld_iN, rust_iN, rs_1, upd_at, n2, li5, iN_inj, iN_add1, Nat.ne_of_lt h]
    refine ⟨_, _, _, hf1, hg1, hI.now ?_ ?_⟩
    · refine ⟨fun k hk => by simp (disch := omega) only [rs_1, upd_at, if_pos, if_neg], ⟨rfl, rfl, rfl⟩, ⟨rfl, rfl, rfl⟩⟩
    · have e9 : cn ((ruset (ruset A 2 0 (iN (r + 1))) 84 0 (iN (r + 1))).1 84) 0 = r + 1 := cn_iN rfl (by omega)
      refine ⟨⟨⟨rfl, by rw [e9]; rfl, by rw [e9]; omega⟩, m1, m2, m3, m4, m5⟩, hq.congr ⟨rfl, rfl⟩ fun i h1 h2 => (by simp (disch := omega) only [rs_1, upd_at, if_pos, if_neg]), hc.congr ⟨rfl, rfl, rfl, rfl⟩ (by simp (disch := omega) only [rs_1, upd_at, if_pos, if_neg]) fun i h1 h2 => (by simp (disch := omega) only [rs_1, upd_at, if_pos, if_neg]), hs.congr rfl (by simp (disch := omega) only [rs_1, upd_at, if_pos, if_neg]) fun i h1 => (by simp (disch := omega) only [rs_1, upd_at, if_pos, if_neg]), hb.congr ⟨rfl, rfl⟩ fun i h1 j h2 => (by simp (disch := omega) only [rs_1, upd_at, if_pos, if_neg]), hr.congr rfl fun i h1 j h2 => (by simp (disch := omega) only [rs_1, upd_at, if_pos, if_neg]), hh.congr ⟨rfl, rfl, rfl, rfl⟩ (by simp (disch := omega) only [rs_1, upd_at, if_pos, if_neg]) m4.2.2 fun i h1 h2 => (by simp (disch := omega) only [rs_1, upd_at, if_pos, if_neg]), hf.congr ⟨rfl, rfl⟩ (by simp (disch := omega) only [rs_1, upd_at, if_pos, if_neg]) m5.2.2 fun i h1 h2 => (by simp (disch := omega) only [rs_1, upd_at, if_pos, if_neg]), hw.congr (fun k h1 h2 => (by simp (disch := omega) only [rs_1, upd_at, if_pos, if_neg])) (by simp (disch := omega) only [rs_1, upd_at, if_pos, if_neg]) m3.2.2 fun i h1 h2 => (by simp (disch := omega) only [rs_1, upd_at, if_pos, if_neg])⟩
  · have h6 : r = 5 := by omega
    subst h6
    refine Op_find hI (-1000002) 1 (by decide) (by decide) ?_ ?_
    · simp (disch := omega) only [fX10_year, n1, n2, li5, iN_lt, Nat.lt_irrefl, if_false]
    · simp (disch := omega) [fX11_year, fndC, e0, ruld_iN, rust_iN, rs_1, upd_at, n2, li5, iN_inj]
