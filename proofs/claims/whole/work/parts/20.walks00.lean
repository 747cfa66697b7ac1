theorem wX10_isWithin {E : ruE} (d : Nat) (hd : 1 ≤ d) (x0 : Int32) (x1 : Int32) (x2 : Int32) (A : ruA) {r : Int32} (h : fX10_isWithin x0 x1 x2 = some r) : ruC E mmX10_isWithin d [.int x0, .int x1, .int x2] A (ruPr r A) := by
  refine ruC.of (L := [some (.int x0), some (.int x1), some (.int x2)]) (by decide) rfl (Nat.le_of_ble_eq_true rfl) rfl ?_
  unfold fX10_isWithin at h
  refine ru_iload_n ddX10_isWithin_0 rfl ?_
  refine ru_iload_n ddX10_isWithin_1 rfl ?_
  refine ru_icmp_lt 14 ddX10_isWithin_2 (by decide) (fun hc => ?_) (fun hc => ?_)
  · rw [if_pos hc] at h
    refine ru_iconst (0 : Int32) ddX10_isWithin_14 rfl ?_
    exact ru_zretP ddX10_isWithin_15 rfl (Or.inl rfl) h
  · rw [if_neg hc] at h
    refine ru_iload_n ddX10_isWithin_5 rfl ?_
    refine ru_iload_n ddX10_isWithin_6 rfl ?_
    refine ru_icmp_gt 14 ddX10_isWithin_7 (by decide) (fun hc => ?_) (fun hc => ?_)
    · rw [if_pos hc] at h
      refine ru_iconst (0 : Int32) ddX10_isWithin_14 rfl ?_
      exact ru_zretP ddX10_isWithin_15 rfl (Or.inl rfl) h
    · rw [if_neg hc] at h
      refine ru_iconst (1 : Int32) ddX10_isWithin_10 rfl ?_
      refine ru_goto 15 ddX10_isWithin_11 (by decide) ?_
      exact ru_zretP ddX10_isWithin_15 rfl (Or.inr rfl) h
theorem wX10_isQuestion {E : ruE} (d : Nat) (hd : 2 ≤ d) (x0 : Int32) (A : ruA) {r : Int32} (h : fX10_isQuestion x0 = some r) : ruC E mmX10_isQuestion d [.int x0] A (ruPr r A) := by
  refine ruC.of (L := [some (.int x0)]) (by decide) rfl (Nat.le_of_ble_eq_true rfl) rfl ?_
  unfold fX10_isQuestion at h
  refine ru_iload_n ddX10_isQuestion_0 rfl ?_
  refine ru_iconst (0 : Int32) ddX10_isQuestion_1 rfl ?_
  refine ru_bipush (11 : Int32) ddX10_isQuestion_2 rfl ?_
  obtain ⟨v1, hv, h⟩ := ruB_inv h
  refine ru_callSi (as := [.int x0, .int (0 : Int32), .int (11 : Int32)]) (st := []) ddX10_isQuestion_4 csX10_77 (wX10_isWithin 1 (Nat.le_refl _) x0 (0 : Int32) (11 : Int32) A hv) rfl (Nat.le_trans (m := 2) (by decide) hd) (Nat.le_of_ble_eq_true rfl) ?_
  clear hv
  obtain ⟨_, hz, h⟩ := ruB_inv h
  exact ru_zretP ddX10_isQuestion_7 rfl (rubz_eq hz) h
theorem wX10_finding {E : ruE} (d : Nat) (hd : 2 ≤ d) (x1 : Int32) (A : ruA) {r : Int32} {B : ruA} (h : fX10_finding x1 A = some (r, B)) : ruC E mmX10_finding d [rurf E 0, .int x1] A (ruPr r B) := by
  refine ruC.of (L := [some (rurf E 0), some (.int x1), none]) (by decide) rfl (Nat.le_of_ble_eq_true rfl) rfl ?_
  unfold fX10_finding at h
  refine ru_ldc (v := (-1000001 : Int32)) ddX10_finding_0 ckX10_81 ?_
  refine ru_iload_n ddX10_finding_2 rfl ?_
  refine ru_isub ddX10_finding_3 ?_
  refine ru_istore_n ddX10_finding_4 (by decide) rfl rfl ?_
  refine ru_iload_n ddX10_finding_5 rfl ?_
  refine ru_iconst (0 : Int32) ddX10_finding_6 rfl ?_
  refine ru_bipush (6 : Int32) ddX10_finding_7 rfl ?_
  obtain ⟨v1, hv, h⟩ := ruB_inv h
  refine ru_callSi (as := [.int ((-1000001 : Int32) - x1), .int (0 : Int32), .int (6 : Int32)]) (st := []) ddX10_finding_9 csX10_77 (wX10_isWithin 1 (Nat.le_refl _) ((-1000001 : Int32) - x1) (0 : Int32) (6 : Int32) A hv) rfl (Nat.le_trans (m := 2) (by decide) hd) (Nat.le_of_ble_eq_true rfl) ?_
  clear hv
  obtain ⟨A2, hq, h⟩ := ruB_inv h
  have J : ruW E mmX10_finding d (ruPr r B) 25 [none, some (.int x1), none] [] A2 := by
      refine ru_iload_n ddX10_finding_25 rfl ?_
      exact ru_iretW ddX10_finding_26 rfl h
  replace h := hq
  clear hq
  refine ru_if_eq 25 ddX10_finding_12 (by decide) (fun hc => ?_) (fun hc => ?_)
  · rw [if_pos hc] at h
    refine ru_wk (L2 := [none, some (.int x1), none]) ⟨rfl, trivial⟩ ?_
    obtain rfl := ruS1 h
    exact J
  · rw [if_neg hc] at h
    refine ru_aload_n ddX10_finding_15 rfl ?_
    refine ru_getR (r := 82) ddX10_finding_16 flX10_67 rfl rfl ?_
    refine ru_iload_n ddX10_finding_19 rfl ?_
    refine ru_dup2 ddX10_finding_20 rfl rfl ?_
    obtain ⟨v3, hv, h⟩ := ruB_inv h
    refine ru_iald ddX10_finding_21 rfl hv ?_
    clear hv
    refine ru_iconst (1 : Int32) ddX10_finding_22 rfl ?_
    refine ru_iadd ddX10_finding_23 ?_
    obtain ⟨A4, hv, h⟩ := ruB_inv h
    refine ru_iast ddX10_finding_24 rfl hv ?_
    clear hv
    refine ru_wk (L2 := [none, some (.int x1), none]) ⟨rfl, trivial⟩ ?_
    obtain rfl := ruS1 h
    exact J
theorem wX10_question {E : ruE} (d : Nat) (hd : 3 ≤ d) (x1 : Int32) (x2 : Int32) (x3 : Int32) (A : ruA) {r : Int32} {B : ruA} (h : fX10_question x1 x2 x3 A = some (r, B)) : ruC E mmX10_question d [rurf E 0, .int x1, .int x2, .int x3] A (ruPr r B) := by
  refine ruC.of (L := [some (rurf E 0), some (.int x1), some (.int x2), some (.int x3), none, none]) (by decide) rfl (Nat.le_of_ble_eq_true rfl) rfl ?_
  unfold fX10_question at h
  refine ru_iload_n ddX10_question_0 rfl ?_
  obtain ⟨v1, hv, h⟩ := ruB_inv h
  refine ru_callSi (as := [.int x1]) (st := []) ddX10_question_1 csX10_73 (wX10_isQuestion 2 (Nat.le_refl _) x1 A hv) rfl (Nat.le_trans (m := 3) (by decide) hd) (Nat.le_of_ble_eq_true rfl) ?_
  clear hv
  refine ru_if_eq 34 ddX10_question_4 (by decide) (fun hc => ?_) (fun hc => ?_)
  · rw [if_pos hc] at h
    refine ru_aload_n ddX10_question_34 rfl ?_
    refine ru_ldc (v := (-1000001 : Int32)) ddX10_question_35 ckX10_81 ?_
    obtain ⟨v2, A3, hv, h⟩ := ruB2_inv h
    refine ru_callVi (as := [.int (-1000001 : Int32)]) (st := []) ddX10_question_37 cvX10_82 rfl (wX10_finding 2 (Nat.le_refl _) (-1000001 : Int32) A hv) rfl (Nat.le_trans (m := 3) (by decide) hd) (Nat.le_of_ble_eq_true rfl) ?_
    clear hv
    exact ru_iretW ddX10_question_40 rfl h
  · rw [if_neg hc] at h
    refine ru_iload_n ddX10_question_7 rfl ?_
    refine ru_iconst (0 : Int32) ddX10_question_8 rfl ?_
    refine ru_iconst (1 : Int32) ddX10_question_9 rfl ?_
    obtain ⟨v4, hv, h⟩ := ruB_inv h
    refine ru_callSi (as := [.int x2, .int (0 : Int32), .int (1 : Int32)]) (st := []) ddX10_question_10 csX10_77 (wX10_isWithin 1 (Nat.le_refl _) x2 (0 : Int32) (1 : Int32) A hv) rfl (Nat.le_trans (m := 3) (by decide) hd) (Nat.le_of_ble_eq_true rfl) ?_
    clear hv
    refine ru_if_eq 34 ddX10_question_13 (by decide) (fun hc => ?_) (fun hc => ?_)
    · rw [if_pos hc] at h
      refine ru_aload_n ddX10_question_34 rfl ?_
      refine ru_ldc (v := (-1000001 : Int32)) ddX10_question_35 ckX10_81 ?_
      obtain ⟨v5, A6, hv, h⟩ := ruB2_inv h
      refine ru_callVi (as := [.int (-1000001 : Int32)]) (st := []) ddX10_question_37 cvX10_82 rfl (wX10_finding 2 (Nat.le_refl _) (-1000001 : Int32) A hv) rfl (Nat.le_trans (m := 3) (by decide) hd) (Nat.le_of_ble_eq_true rfl) ?_
      clear hv
      exact ru_iretW ddX10_question_40 rfl h
    · rw [if_neg hc] at h
      refine ru_iload_n ddX10_question_16 rfl ?_
      refine ru_iconst (0 : Int32) ddX10_question_17 rfl ?_
      refine ru_iload_n ddX10_question_18 rfl ?_
      obtain ⟨v7, hq, h⟩ := ruB_inv h
      have J : ruW E mmX10_question d (ruPr r B) 28 [some (rurf E 0), some (.int x1), some (.int x2), some (.int x3), none, none] [.int v7, .int (0 : Int32), .int x3] A := by
          obtain ⟨v8, hv, h⟩ := ruB_inv h
          refine ru_callSi (as := [.int x3, .int (0 : Int32), .int v7]) (st := []) ddX10_question_28 csX10_77 (wX10_isWithin 1 (Nat.le_refl _) x3 (0 : Int32) v7 A hv) rfl (Nat.le_trans (m := 3) (by decide) hd) (Nat.le_of_ble_eq_true rfl) ?_
          clear hv
          refine ru_if_ne 41 ddX10_question_31 (by decide) (fun hc => ?_) (fun hc => ?_)
          · rw [if_neg hc] at h
            refine ru_iload_n ddX10_question_41 rfl ?_
            obtain ⟨v9, hq, h⟩ := ruB_inv h
            have J : ruW E mmX10_question d (ruPr r B) 62 [none, some (.int x1), none, some (.int x3), none, none] [rurf E v9] A := by
                refine ru_astore ddX10_question_62 (by decide) rfl rfl ?_
                refine ru_aload ddX10_question_64 rfl ?_
                refine ru_iload_n ddX10_question_66 rfl ?_
                obtain ⟨n11, hn11, h⟩ := ruB_inv h
                obtain ⟨v10, hv, h⟩ := ruB_inv h
                refine ru_iald ddX10_question_67 (rudI_eq hn11) hv ?_
                clear hv
                refine ru_istore ddX10_question_68 (by decide) rfl rfl ?_
                refine ru_aload ddX10_question_70 rfl ?_
                refine ru_iload_n ddX10_question_72 rfl ?_
                refine ru_iload_n ddX10_question_73 rfl ?_
                obtain ⟨A12, hv, h⟩ := ruB_inv h
                refine ru_iast ddX10_question_74 (rudI_eq hn11) hv ?_
                clear hv
                refine ru_iload ddX10_question_75 rfl ?_
                exact ru_iretW ddX10_question_77 rfl h
            replace h := hq
            clear hq
            refine ru_if_ne 55 ddX10_question_42 (by decide) (fun hc => ?_) (fun hc => ?_)
            · rw [if_neg hc] at h
              refine ru_aload_n ddX10_question_55 rfl ?_
              refine ru_getR (r := 2) ddX10_question_56 flX10_27 rfl rfl ?_
              refine ru_getR (r := 4) ddX10_question_59 flX10_91 rfl rfl ?_
              refine ru_wk (L2 := [none, some (.int x1), none, some (.int x3), none, none]) ⟨rfl, rfl, trivial⟩ ?_
              obtain rfl := ruS1 h
              exact J
            · rw [if_pos hc] at h
              refine ru_aload_n ddX10_question_45 rfl ?_
              refine ru_getR (r := 2) ddX10_question_46 flX10_27 rfl rfl ?_
              refine ru_getR (r := 3) ddX10_question_49 flX10_86 rfl rfl ?_
              refine ru_goto 62 ddX10_question_52 (by decide) ?_
              refine ru_wk (L2 := [none, some (.int x1), none, some (.int x3), none, none]) ⟨rfl, rfl, trivial⟩ ?_
              obtain rfl := ruS1 h
              exact J
          · rw [if_pos hc] at h
            refine ru_aload_n ddX10_question_34 rfl ?_
            refine ru_ldc (v := (-1000001 : Int32)) ddX10_question_35 ckX10_81 ?_
            obtain ⟨v13, A14, hv, h⟩ := ruB2_inv h
            refine ru_callVi (as := [.int (-1000001 : Int32)]) (st := []) ddX10_question_37 cvX10_82 rfl (wX10_finding 2 (Nat.le_refl _) (-1000001 : Int32) A hv) rfl (Nat.le_trans (m := 3) (by decide) hd) (Nat.le_of_ble_eq_true rfl) ?_
            clear hv
            exact ru_iretW ddX10_question_40 rfl h
      replace h := hq
      clear hq
      refine ru_if_ne 26 ddX10_question_19 (by decide) (fun hc => ?_) (fun hc => ?_)
      · rw [if_neg hc] at h
        refine ru_bipush (9 : Int32) ddX10_question_26 rfl ?_
        obtain rfl := ruS1 h
        exact J
      · rw [if_pos hc] at h
        refine ru_iconst (3 : Int32) ddX10_question_22 rfl ?_
        refine ru_goto 28 ddX10_question_23 (by decide) ?_
        obtain rfl := ruS1 h
        exact J
theorem wX10_room {E : ruE} (d : Nat) (hd : 3 ≤ d) (A : ruA) {r : Int32} {B : ruA} (h : fX10_room A = some (r, B)) : ruC E mmX10_room d [rurf E 0] A (ruPr r B) := by
  refine ruC.of (L := [some (rurf E 0)]) (by decide) rfl (Nat.le_of_ble_eq_true rfl) rfl ?_
  unfold fX10_room at h
  refine ru_aload_n ddX10_room_0 rfl ?_
  refine ru_getR (r := 2) ddX10_room_1 flX10_27 rfl rfl ?_
  refine ru_getI ddX10_room_4 flX10_94 rfl ?_
  refine ru_bipush (6 : Int32) ddX10_room_7 rfl ?_
  refine ru_icmp_lt 19 ddX10_room_9 (by decide) (fun hc => ?_) (fun hc => ?_)
  · rw [if_pos hc] at h
    refine ru_aload_n ddX10_room_19 rfl ?_
    refine ru_getR (r := 2) ddX10_room_20 flX10_27 rfl rfl ?_
    refine ru_dup ddX10_room_23 rfl ?_
    refine ru_getI ddX10_room_24 flX10_94 rfl ?_
    refine ru_iconst (1 : Int32) ddX10_room_27 rfl ?_
    refine ru_iadd ddX10_room_28 ?_
    obtain ⟨A1, hv, h⟩ := ruB_inv h
    refine ru_putI2 ddX10_room_29 flX10_94 fp5_1 rfl hv ?_
    clear hv
    refine ru_aload_n ddX10_room_32 rfl ?_
    refine ru_getR (r := 2) ddX10_room_33 flX10_27 rfl rfl ?_
    refine ru_getI ddX10_room_36 flX10_94 rfl ?_
    refine ru_iconst (1 : Int32) ddX10_room_39 rfl ?_
    refine ru_isub ddX10_room_40 ?_
    exact ru_iretW ddX10_room_41 rfl h
  · rw [if_neg hc] at h
    refine ru_aload_n ddX10_room_12 rfl ?_
    refine ru_ldc (v := (-1000002 : Int32)) ddX10_room_13 ckX10_97 ?_
    obtain ⟨v2, A3, hv, h⟩ := ruB2_inv h
    refine ru_callVi (as := [.int (-1000002 : Int32)]) (st := []) ddX10_room_15 cvX10_82 rfl (wX10_finding 2 (Nat.le_refl _) (-1000002 : Int32) A hv) rfl (Nat.le_trans (m := 3) (by decide) hd) (Nat.le_of_ble_eq_true rfl) ?_
    clear hv
    exact ru_iretW ddX10_room_18 rfl h
theorem wX10_isRoom {E : ruE} (d : Nat) (hd : 2 ≤ d) (x1 : Int32) (A : ruA) {r : Int32} (h : fX10_isRoom x1 A = some r) : ruC E mmX10_isRoom d [rurf E 0, .int x1] A (ruPr r A) := by
  refine ruC.of (L := [some (rurf E 0), some (.int x1)]) (by decide) rfl (Nat.le_of_ble_eq_true rfl) rfl ?_
  unfold fX10_isRoom at h
  refine ru_iload_n ddX10_isRoom_0 rfl ?_
  refine ru_iconst (0 : Int32) ddX10_isRoom_1 rfl ?_
  refine ru_aload_n ddX10_isRoom_2 rfl ?_
  refine ru_getR (r := 2) ddX10_isRoom_3 flX10_27 rfl rfl ?_
  refine ru_getI ddX10_isRoom_6 flX10_94 rfl ?_
  refine ru_iconst (1 : Int32) ddX10_isRoom_9 rfl ?_
  refine ru_isub ddX10_isRoom_10 ?_
  obtain ⟨v1, hv, h⟩ := ruB_inv h
  refine ru_callSi (as := [.int x1, .int (0 : Int32), .int ((A.1 2 1) - (1 : Int32))]) (st := []) ddX10_isRoom_11 csX10_77 (wX10_isWithin 1 (Nat.le_refl _) x1 (0 : Int32) ((A.1 2 1) - (1 : Int32)) A hv) rfl (Nat.le_trans (m := 2) (by decide) hd) (Nat.le_of_ble_eq_true rfl) ?_
  clear hv
  obtain ⟨_, hz, h⟩ := ruB_inv h
  exact ru_zretP ddX10_isRoom_14 rfl (rubz_eq hz) h
theorem wX5_isTaken_l2 {E : ruE} {d : Nat} (hd : 1 ≤ d) {β : Type} {Q : Option Value → ruA → Prop} {res : β} (x1 : Int32) (x2 : Int32) (A : ruA) {k30 : Option (β)} {k38 : Option (β)} (hk30 : k30 = some res → ruW E mmX5_isTaken d Q 30 [none, none, none, none] [] A) (hk38 : k38 = some res → ruW E mmX5_isTaken d Q 38 [none, none, none, none] [] A) : ∀ (n : Nat) (x3 : Int32), fX5_isTaken_l2 x1 x2 A k30 k38 n x3 = some res → ruW E mmX5_isTaken d Q 2 [some (rurf E 2), some (.int x1), some (.int x2), some (.int x3)] [] A := by
  intro n
  induction n with
  | zero =>
    intro x3 h
    exact absurd h (by rw [fX5_isTaken_l2]; exact fun h => nomatch h)
  | succ n ih =>
    intro x3 h
    rw [fX5_isTaken_l2] at h
    refine ru_iload_n ddX5_isTaken_2 rfl ?_
    refine ru_aload_n ddX5_isTaken_3 rfl ?_
    refine ru_getI ddX5_isTaken_4 flX5_37 rfl ?_
    refine ru_icmp_ge 38 ddX5_isTaken_7 (by decide) (fun hc => ?_) (fun hc => ?_)
    · rw [if_pos hc] at h
      refine ru_wk (L2 := [none, none, none, none]) trivial ?_
      exact hk38 h
    · rw [if_neg hc] at h
      refine ru_aload_n ddX5_isTaken_10 rfl ?_
      refine ru_getR (r := 5) ddX5_isTaken_11 flX5_18 rfl rfl ?_
      refine ru_iload_n ddX5_isTaken_14 rfl ?_
      obtain ⟨v1, hv, h⟩ := ruB_inv h
      refine ru_iald ddX5_isTaken_15 rfl hv ?_
      clear hv
      refine ru_iload_n ddX5_isTaken_16 rfl ?_
      refine ru_icmp_ne 32 ddX5_isTaken_17 (by decide) (fun hc => ?_) (fun hc => ?_)
      · rw [if_neg hc] at h
        refine ru_iinc (x3 + (1 : Int32)) ddX5_isTaken_32 (by decide) rfl rfl rfl rfl ?_
        refine ru_goto 2 ddX5_isTaken_35 (by decide) ?_
        exact ih (x3 + (1 : Int32)) h
      · rw [if_pos hc] at h
        refine ru_aload_n ddX5_isTaken_20 rfl ?_
        refine ru_getR (r := 6) ddX5_isTaken_21 flX5_21 rfl rfl ?_
        refine ru_iload_n ddX5_isTaken_24 rfl ?_
        obtain ⟨v2, hv, h⟩ := ruB_inv h
        refine ru_iald ddX5_isTaken_25 rfl hv ?_
        clear hv
        refine ru_iload_n ddX5_isTaken_26 rfl ?_
        refine ru_icmp_ne 32 ddX5_isTaken_27 (by decide) (fun hc => ?_) (fun hc => ?_)
        · rw [if_neg hc] at h
          refine ru_iinc (x3 + (1 : Int32)) ddX5_isTaken_32 (by decide) rfl rfl rfl rfl ?_
          refine ru_goto 2 ddX5_isTaken_35 (by decide) ?_
          exact ih (x3 + (1 : Int32)) h
        · rw [if_pos hc] at h
          refine ru_wk (L2 := [none, none, none, none]) trivial ?_
          exact hk30 h
theorem wX5_isTaken {E : ruE} (d : Nat) (hd : 1 ≤ d) (x1 : Int32) (x2 : Int32) (A : ruA) {r : Int32} (h : fX5_isTaken x1 x2 A = some r) : ruC E mmX5_isTaken d [rurf E 2, .int x1, .int x2] A (ruPr r A) := by
  refine ruC.of (L := [some (rurf E 2), some (.int x1), some (.int x2), none]) (by decide) rfl (Nat.le_of_ble_eq_true rfl) rfl ?_
  unfold fX5_isTaken at h
  refine ru_iconst (0 : Int32) ddX5_isTaken_0 rfl ?_
  refine ru_istore_n ddX5_isTaken_1 (by decide) rfl rfl ?_
  exact wX5_isTaken_l2 hd x1 x2 A (fun h => by
        refine ru_iconst (1 : Int32) ddX5_isTaken_30 rfl ?_
        exact ru_zretP ddX5_isTaken_31 rfl (Or.inr rfl) h) (fun h => by
        refine ru_iconst (0 : Int32) ddX5_isTaken_38 rfl ?_
        exact ru_zretP ddX5_isTaken_39 rfl (Or.inl rfl) h) ruF (0 : Int32) h
theorem wX5_seated {E : ruE} (d : Nat) (hd : 1 ≤ d) (x1 : Int32) (x2 : Int32) (A : ruA) {r : Int32} {B : ruA} (h : fX5_seated x1 x2 A = some (r, B)) : ruC E mmX5_seated d [rurf E 2, .int x1, .int x2] A (ruPr r B) := by
  refine ruC.of (L := [some (rurf E 2), some (.int x1), some (.int x2), none]) (by decide) rfl (Nat.le_of_ble_eq_true rfl) rfl ?_
  unfold fX5_seated at h
  refine ru_aload_n ddX5_seated_0 rfl ?_
  refine ru_getI ddX5_seated_1 flX5_37 rfl ?_
  refine ru_istore_n ddX5_seated_4 (by decide) rfl rfl ?_
  refine ru_aload_n ddX5_seated_5 rfl ?_
  refine ru_getR (r := 5) ddX5_seated_6 flX5_18 rfl rfl ?_
  refine ru_iload_n ddX5_seated_9 rfl ?_
  refine ru_iload_n ddX5_seated_10 rfl ?_
  obtain ⟨A1, hv, h⟩ := ruB_inv h
  refine ru_iast ddX5_seated_11 rfl hv ?_
  clear hv
  refine ru_aload_n ddX5_seated_12 rfl ?_
  refine ru_getR (r := 6) ddX5_seated_13 flX5_21 rfl rfl ?_
  refine ru_iload_n ddX5_seated_16 rfl ?_
  refine ru_iload_n ddX5_seated_17 rfl ?_
  obtain ⟨A2, hv, h⟩ := ruB_inv h
  refine ru_iast ddX5_seated_18 rfl hv ?_
  clear hv
  refine ru_aload_n ddX5_seated_19 rfl ?_
  refine ru_dup ddX5_seated_20 rfl ?_
  refine ru_getI ddX5_seated_21 flX5_37 rfl ?_
  refine ru_iconst (1 : Int32) ddX5_seated_24 rfl ?_
  refine ru_iadd ddX5_seated_25 ?_
  obtain ⟨A3, hv, h⟩ := ruB_inv h
  refine ru_putI2 ddX5_seated_26 flX5_37 fp5_2 rfl hv ?_
  clear hv
  refine ru_iload_n ddX5_seated_29 rfl ?_
  exact ru_iretW ddX5_seated_30 rfl h
theorem wX10_child {E : ruE} (d : Nat) (hd : 3 ≤ d) (x1 : Int32) (x2 : Int32) (A : ruA) {r : Int32} {B : ruA} (h : fX10_child x1 x2 A = some (r, B)) : ruC E mmX10_child d [rurf E 0, .int x1, .int x2] A (ruPr r B) := by
  refine ruC.of (L := [some (rurf E 0), some (.int x1), some (.int x2)]) (by decide) rfl (Nat.le_of_ble_eq_true rfl) rfl ?_
  unfold fX10_child at h
  refine ru_aload_n ddX10_child_0 rfl ?_
  refine ru_iload_n ddX10_child_1 rfl ?_
  obtain ⟨v1, hv, h⟩ := ruB_inv h
  refine ru_callVi (as := [.int x1]) (st := []) ddX10_child_2 cvX10_98 rfl (wX10_isRoom 2 (Nat.le_refl _) x1 A hv) rfl (Nat.le_trans (m := 3) (by decide) hd) (Nat.le_of_ble_eq_true rfl) ?_
  clear hv
  refine ru_if_eq 18 ddX10_child_5 (by decide) (fun hc => ?_) (fun hc => ?_)
  · rw [if_pos hc] at h
    refine ru_aload_n ddX10_child_18 rfl ?_
    refine ru_ldc (v := (-1000001 : Int32)) ddX10_child_19 ckX10_81 ?_
    obtain ⟨v2, A3, hv, h⟩ := ruB2_inv h
    refine ru_callVi (as := [.int (-1000001 : Int32)]) (st := []) ddX10_child_21 cvX10_82 rfl (wX10_finding 2 (Nat.le_refl _) (-1000001 : Int32) A hv) rfl (Nat.le_trans (m := 3) (by decide) hd) (Nat.le_of_ble_eq_true rfl) ?_
    clear hv
    exact ru_iretW ddX10_child_24 rfl h
  · rw [if_neg hc] at h
    refine ru_iload_n ddX10_child_8 rfl ?_
    refine ru_iconst (0 : Int32) ddX10_child_9 rfl ?_
    refine ru_bipush (19 : Int32) ddX10_child_10 rfl ?_
    obtain ⟨v4, hv, h⟩ := ruB_inv h
    refine ru_callSi (as := [.int x2, .int (0 : Int32), .int (19 : Int32)]) (st := []) ddX10_child_12 csX10_77 (wX10_isWithin 1 (Nat.le_refl _) x2 (0 : Int32) (19 : Int32) A hv) rfl (Nat.le_trans (m := 3) (by decide) hd) (Nat.le_of_ble_eq_true rfl) ?_
    clear hv
    refine ru_if_ne 25 ddX10_child_15 (by decide) (fun hc => ?_) (fun hc => ?_)
    · rw [if_neg hc] at h
      refine ru_aload_n ddX10_child_25 rfl ?_
      refine ru_getR (r := 2) ddX10_child_26 flX10_27 rfl rfl ?_
      refine ru_iload_n ddX10_child_29 rfl ?_
      refine ru_iload_n ddX10_child_30 rfl ?_
      obtain ⟨v5, hv, h⟩ := ruB_inv h
      refine ru_callVi (as := [.int x1, .int x2]) (st := []) ddX10_child_31 cvX10_101 rfl (wX5_isTaken 1 (Nat.le_refl _) x1 x2 A hv) rfl (Nat.le_trans (m := 3) (by decide) hd) (Nat.le_of_ble_eq_true rfl) ?_
      clear hv
      refine ru_if_eq 44 ddX10_child_34 (by decide) (fun hc => ?_) (fun hc => ?_)
      · rw [if_pos hc] at h
        refine ru_aload_n ddX10_child_44 rfl ?_
        refine ru_getR (r := 2) ddX10_child_45 flX10_27 rfl rfl ?_
        refine ru_getI ddX10_child_48 flX10_106 rfl ?_
        refine ru_bipush (24 : Int32) ddX10_child_51 rfl ?_
        refine ru_icmp_lt 63 ddX10_child_53 (by decide) (fun hc => ?_) (fun hc => ?_)
        · rw [if_pos hc] at h
          refine ru_aload_n ddX10_child_63 rfl ?_
          refine ru_getR (r := 2) ddX10_child_64 flX10_27 rfl rfl ?_
          refine ru_iload_n ddX10_child_67 rfl ?_
          refine ru_iload_n ddX10_child_68 rfl ?_
          obtain ⟨v6, A7, hv, h⟩ := ruB2_inv h
          refine ru_callVi (as := [.int x1, .int x2]) (st := []) ddX10_child_69 cvX10_109 rfl (wX5_seated 1 (Nat.le_refl _) x1 x2 A hv) rfl (Nat.le_trans (m := 3) (by decide) hd) (Nat.le_of_ble_eq_true rfl) ?_
          clear hv
          exact ru_iretW ddX10_child_72 rfl h
        · rw [if_neg hc] at h
          refine ru_aload_n ddX10_child_56 rfl ?_
          refine ru_ldc (v := (-1000002 : Int32)) ddX10_child_57 ckX10_97 ?_
          obtain ⟨v8, A9, hv, h⟩ := ruB2_inv h
          refine ru_callVi (as := [.int (-1000002 : Int32)]) (st := []) ddX10_child_59 cvX10_82 rfl (wX10_finding 2 (Nat.le_refl _) (-1000002 : Int32) A hv) rfl (Nat.le_trans (m := 3) (by decide) hd) (Nat.le_of_ble_eq_true rfl) ?_
          clear hv
          exact ru_iretW ddX10_child_62 rfl h
      · rw [if_neg hc] at h
        refine ru_aload_n ddX10_child_37 rfl ?_
        refine ru_ldc (v := (-1000005 : Int32)) ddX10_child_38 ckX10_105 ?_
        obtain ⟨v10, A11, hv, h⟩ := ruB2_inv h
        refine ru_callVi (as := [.int (-1000005 : Int32)]) (st := []) ddX10_child_40 cvX10_82 rfl (wX10_finding 2 (Nat.le_refl _) (-1000005 : Int32) A hv) rfl (Nat.le_trans (m := 3) (by decide) hd) (Nat.le_of_ble_eq_true rfl) ?_
        clear hv
        exact ru_iretW ddX10_child_43 rfl h
    · rw [if_pos hc] at h
      refine ru_aload_n ddX10_child_18 rfl ?_
      refine ru_ldc (v := (-1000001 : Int32)) ddX10_child_19 ckX10_81 ?_
      obtain ⟨v12, A13, hv, h⟩ := ruB2_inv h
      refine ru_callVi (as := [.int (-1000001 : Int32)]) (st := []) ddX10_child_21 cvX10_82 rfl (wX10_finding 2 (Nat.le_refl _) (-1000001 : Int32) A hv) rfl (Nat.le_trans (m := 3) (by decide) hd) (Nat.le_of_ble_eq_true rfl) ?_
      clear hv
      exact ru_iretW ddX10_child_24 rfl h
theorem wX10_isChild {E : ruE} (d : Nat) (hd : 2 ≤ d) (x1 : Int32) (A : ruA) {r : Int32} (h : fX10_isChild x1 A = some r) : ruC E mmX10_isChild d [rurf E 0, .int x1] A (ruPr r A) := by
  refine ruC.of (L := [some (rurf E 0), some (.int x1)]) (by decide) rfl (Nat.le_of_ble_eq_true rfl) rfl ?_
  unfold fX10_isChild at h
  refine ru_iload_n ddX10_isChild_0 rfl ?_
  refine ru_iconst (0 : Int32) ddX10_isChild_1 rfl ?_
  refine ru_aload_n ddX10_isChild_2 rfl ?_
  refine ru_getR (r := 2) ddX10_isChild_3 flX10_27 rfl rfl ?_
  refine ru_getI ddX10_isChild_6 flX10_106 rfl ?_
  refine ru_iconst (1 : Int32) ddX10_isChild_9 rfl ?_
  refine ru_isub ddX10_isChild_10 ?_
  obtain ⟨v1, hv, h⟩ := ruB_inv h
  refine ru_callSi (as := [.int x1, .int (0 : Int32), .int ((A.1 2 2) - (1 : Int32))]) (st := []) ddX10_isChild_11 csX10_77 (wX10_isWithin 1 (Nat.le_refl _) x1 (0 : Int32) ((A.1 2 2) - (1 : Int32)) A hv) rfl (Nat.le_trans (m := 2) (by decide) hd) (Nat.le_of_ble_eq_true rfl) ?_
  clear hv
  obtain ⟨_, hz, h⟩ := ruB_inv h
  exact ru_zretP ddX10_isChild_14 rfl (rubz_eq hz) h
theorem wX5_learns {E : ruE} (d : Nat) (hd : 1 ≤ d) (x1 : Int32) (x2 : Int32) (x3 : Int32) (A : ruA) {r : Int32} {B : ruA} (h : fX5_learns x1 x2 x3 A = some (r, B)) : ruC E mmX5_learns d [rurf E 2, .int x1, .int x2, .int x3] A (ruPr r B) := by
  refine ruC.of (L := [some (rurf E 2), some (.int x1), some (.int x2), some (.int x3), none, none, none]) (by decide) rfl (Nat.le_of_ble_eq_true rfl) rfl ?_
  unfold fX5_learns at h
  refine ru_iconst (1 : Int32) ddX5_learns_0 rfl ?_
  refine ru_iload_n ddX5_learns_1 rfl ?_
  refine ru_ishl ddX5_learns_2 ?_
  refine ru_istore ddX5_learns_3 (by decide) rfl rfl ?_
  refine ru_aload_n ddX5_learns_5 rfl ?_
  refine ru_getR (r := 7) ddX5_learns_6 flX5_24 rfl rfl ?_
  refine ru_iload_n ddX5_learns_9 rfl ?_
  obtain ⟨v1, hv, h⟩ := ruB_inv h
  refine ru_iald ddX5_learns_10 rfl hv ?_
  clear hv
  refine ru_istore ddX5_learns_11 (by decide) rfl rfl ?_
  refine ru_aload_n ddX5_learns_13 rfl ?_
  refine ru_getR (r := 8) ddX5_learns_14 flX5_27 rfl rfl ?_
  refine ru_iload_n ddX5_learns_17 rfl ?_
  obtain ⟨v2, hv, h⟩ := ruB_inv h
  refine ru_iald ddX5_learns_18 rfl hv ?_
  clear hv
  refine ru_istore ddX5_learns_19 (by decide) rfl rfl ?_
  refine ru_aload_n ddX5_learns_21 rfl ?_
  refine ru_getR (r := 7) ddX5_learns_22 flX5_24 rfl rfl ?_
  refine ru_iload_n ddX5_learns_25 rfl ?_
  refine ru_iload ddX5_learns_26 rfl ?_
  refine ru_iload ddX5_learns_28 rfl ?_
  refine ru_ior ddX5_learns_30 ?_
  obtain ⟨A3, hv, h⟩ := ruB_inv h
  refine ru_iast ddX5_learns_31 rfl hv ?_
  clear hv
  refine ru_iload_n ddX5_learns_32 rfl ?_
  obtain ⟨A4, hq, h⟩ := ruB_inv h
  have J : ruW E mmX5_learns d (ruPr r B) 47 [some (rurf E 2), some (.int x1), none, none, none, some (.int v1), some (.int v2)] [] A4 := by
      refine ru_aload_n ddX5_learns_47 rfl ?_
      refine ru_getR (r := 7) ddX5_learns_48 flX5_24 rfl rfl ?_
      refine ru_iload_n ddX5_learns_51 rfl ?_
      obtain ⟨v6, hv, h⟩ := ruB_inv h
      refine ru_iald ddX5_learns_52 rfl hv ?_
      clear hv
      refine ru_iload ddX5_learns_53 rfl ?_
      refine ru_icmp_ne 69 ddX5_learns_55 (by decide) (fun hc => ?_) (fun hc => ?_)
      · rw [if_neg hc] at h
        refine ru_iconst (1 : Int32) ddX5_learns_69 rfl ?_
        refine ru_goto 74 ddX5_learns_70 (by decide) ?_
        exact ru_zretW ddX5_learns_74 rfl (Or.inr rfl) h
      · rw [if_pos hc] at h
        refine ru_aload_n ddX5_learns_58 rfl ?_
        refine ru_getR (r := 8) ddX5_learns_59 flX5_27 rfl rfl ?_
        refine ru_iload_n ddX5_learns_62 rfl ?_
        obtain ⟨v7, hv, h⟩ := ruB_inv h
        refine ru_iald ddX5_learns_63 rfl hv ?_
        clear hv
        refine ru_iload ddX5_learns_64 rfl ?_
        refine ru_icmp_eq 73 ddX5_learns_66 (by decide) (fun hc => ?_) (fun hc => ?_)
        · rw [if_pos hc] at h
          refine ru_iconst (0 : Int32) ddX5_learns_73 rfl ?_
          exact ru_zretW ddX5_learns_74 rfl (Or.inl rfl) h
        · rw [if_neg hc] at h
          refine ru_iconst (1 : Int32) ddX5_learns_69 rfl ?_
          refine ru_goto 74 ddX5_learns_70 (by decide) ?_
          exact ru_zretW ddX5_learns_74 rfl (Or.inr rfl) h
  replace h := hq
  clear hq
  refine ru_if_eq 47 ddX5_learns_33 (by decide) (fun hc => ?_) (fun hc => ?_)
  · rw [if_pos hc] at h
    refine ru_wk (L2 := [some (rurf E 2), some (.int x1), none, none, none, some (.int v1), some (.int v2)]) ⟨rfl, rfl, rfl, rfl, trivial⟩ ?_
    obtain rfl := ruS1 h
    exact J
  · rw [if_neg hc] at h
    refine ru_aload_n ddX5_learns_36 rfl ?_
    refine ru_getR (r := 8) ddX5_learns_37 flX5_27 rfl rfl ?_
    refine ru_iload_n ddX5_learns_40 rfl ?_
    refine ru_iload ddX5_learns_41 rfl ?_
    refine ru_iload ddX5_learns_43 rfl ?_
    refine ru_ior ddX5_learns_45 ?_
    obtain ⟨A5, hv, h⟩ := ruB_inv h
    refine ru_iast ddX5_learns_46 rfl hv ?_
    clear hv
    refine ru_wk (L2 := [some (rurf E 2), some (.int x1), none, none, none, some (.int v1), some (.int v2)]) ⟨rfl, rfl, rfl, rfl, trivial⟩ ?_
    obtain rfl := ruS1 h
    exact J
theorem wX10_learn {E : ruE} (d : Nat) (hd : 3 ≤ d) (x1 : Int32) (x2 : Int32) (x3 : Int32) (A : ruA) {r : Int32} {B : ruA} (h : fX10_learn x1 x2 x3 A = some (r, B)) : ruC E mmX10_learn d [rurf E 0, .int x1, .int x2, .int x3] A (ruPr r B) := by
  refine ruC.of (L := [some (rurf E 0), some (.int x1), some (.int x2), some (.int x3)]) (by decide) rfl (Nat.le_of_ble_eq_true rfl) rfl ?_
  unfold fX10_learn at h
  refine ru_aload_n ddX10_learn_0 rfl ?_
  refine ru_iload_n ddX10_learn_1 rfl ?_
  obtain ⟨v1, hv, h⟩ := ruB_inv h
  refine ru_callVi (as := [.int x1]) (st := []) ddX10_learn_2 cvX10_113 rfl (wX10_isChild 2 (Nat.le_refl _) x1 A hv) rfl (Nat.le_trans (m := 3) (by decide) hd) (Nat.le_of_ble_eq_true rfl) ?_
  clear hv
  refine ru_if_eq 15 ddX10_learn_5 (by decide) (fun hc => ?_) (fun hc => ?_)
  · rw [if_pos hc] at h
    refine ru_aload_n ddX10_learn_15 rfl ?_
    refine ru_ldc (v := (-1000001 : Int32)) ddX10_learn_16 ckX10_81 ?_
    obtain ⟨v2, A3, hv, h⟩ := ruB2_inv h
    refine ru_callVi (as := [.int (-1000001 : Int32)]) (st := []) ddX10_learn_18 cvX10_82 rfl (wX10_finding 2 (Nat.le_refl _) (-1000001 : Int32) A hv) rfl (Nat.le_trans (m := 3) (by decide) hd) (Nat.le_of_ble_eq_true rfl) ?_
    clear hv
    exact ru_iretW ddX10_learn_21 rfl h
  · rw [if_neg hc] at h
    refine ru_iload_n ddX10_learn_8 rfl ?_
    obtain ⟨v4, hv, h⟩ := ruB_inv h
    refine ru_callSi (as := [.int x2]) (st := []) ddX10_learn_9 csX10_73 (wX10_isQuestion 2 (Nat.le_refl _) x2 A hv) rfl (Nat.le_trans (m := 3) (by decide) hd) (Nat.le_of_ble_eq_true rfl) ?_
    clear hv
    refine ru_if_ne 22 ddX10_learn_12 (by decide) (fun hc => ?_) (fun hc => ?_)
    · rw [if_neg hc] at h
      refine ru_aload_n ddX10_learn_22 rfl ?_
      refine ru_getR (r := 2) ddX10_learn_23 flX10_27 rfl rfl ?_
      refine ru_iload_n ddX10_learn_26 rfl ?_
      refine ru_iload_n ddX10_learn_27 rfl ?_
      refine ru_iload_n ddX10_learn_28 rfl ?_
      obtain ⟨v5, A6, hv, h⟩ := ruB2_inv h
      refine ru_callVi (as := [.int x1, .int x2, .int x3]) (st := []) ddX10_learn_29 cvX10_116 rfl (wX5_learns 1 (Nat.le_refl _) x1 x2 x3 A hv) rfl (Nat.le_trans (m := 3) (by decide) hd) (Nat.le_of_ble_eq_true rfl) ?_
      clear hv
      refine ru_if_eq 39 ddX10_learn_32 (by decide) (fun hc => ?_) (fun hc => ?_)
      · rw [if_pos hc] at h
        refine ru_iconst (0 : Int32) ddX10_learn_39 rfl ?_
        exact ru_iretW ddX10_learn_40 rfl h
      · rw [if_neg hc] at h
        refine ru_iconst (1 : Int32) ddX10_learn_35 rfl ?_
        refine ru_goto 40 ddX10_learn_36 (by decide) ?_
        exact ru_iretW ddX10_learn_40 rfl h
    · rw [if_pos hc] at h
      refine ru_aload_n ddX10_learn_15 rfl ?_
      refine ru_ldc (v := (-1000001 : Int32)) ddX10_learn_16 ckX10_81 ?_
      obtain ⟨v7, A8, hv, h⟩ := ruB2_inv h
      refine ru_callVi (as := [.int (-1000001 : Int32)]) (st := []) ddX10_learn_18 cvX10_82 rfl (wX10_finding 2 (Nat.le_refl _) (-1000001 : Int32) A hv) rfl (Nat.le_trans (m := 3) (by decide) hd) (Nat.le_of_ble_eq_true rfl) ?_
      clear hv
      exact ru_iretW ddX10_learn_21 rfl h
theorem wX10_has {E : ruE} (d : Nat) (hd : 1 ≤ d) (x0 : Int32) (x1 : Int32) (A : ruA) {r : Int32} (h : fX10_has x0 x1 = some r) : ruC E mmX10_has d [.int x0, .int x1] A (ruPr r A) := by
  refine ruC.of (L := [some (.int x0), some (.int x1)]) (by decide) rfl (Nat.le_of_ble_eq_true rfl) rfl ?_
  unfold fX10_has at h
  refine ru_iload_n ddX10_has_0 rfl ?_
  refine ru_iload_n ddX10_has_1 rfl ?_
  refine ru_iushr2 ddX10_has_2 ?_
  refine ru_iconst (1 : Int32) ddX10_has_3 rfl ?_
  refine ru_iand ddX10_has_4 ?_
  refine ru_iconst (1 : Int32) ddX10_has_5 rfl ?_
  refine ru_icmp_ne 13 ddX10_has_6 (by decide) (fun hc => ?_) (fun hc => ?_)
  · rw [if_neg hc] at h
    refine ru_iconst (0 : Int32) ddX10_has_13 rfl ?_
    exact ru_zretP ddX10_has_14 rfl (Or.inl rfl) h
  · rw [if_pos hc] at h
    refine ru_iconst (1 : Int32) ddX10_has_9 rfl ?_
    refine ru_goto 14 ddX10_has_10 (by decide) ?_
    exact ru_zretP ddX10_has_14 rfl (Or.inr rfl) h
theorem wX5_forgets {E : ruE} (d : Nat) (hd : 2 ≤ d) (x1 : Int32) (x2 : Int32) (A : ruA) {r : Int32} {B : ruA} (h : fX5_forgets x1 x2 A = some (r, B)) : ruC E mmX5_forgets d [rurf E 2, .int x1, .int x2] A (ruPr r B) := by
  refine ruC.of (L := [some (rurf E 2), some (.int x1), some (.int x2), none]) (by decide) rfl (Nat.le_of_ble_eq_true rfl) rfl ?_
  unfold fX5_forgets at h
  refine ru_aload_n ddX5_forgets_0 rfl ?_
  refine ru_getR (r := 7) ddX5_forgets_1 flX5_24 rfl rfl ?_
  refine ru_iload_n ddX5_forgets_4 rfl ?_
  obtain ⟨v1, hv, h⟩ := ruB_inv h
  refine ru_iald ddX5_forgets_5 rfl hv ?_
  clear hv
  refine ru_iload_n ddX5_forgets_6 rfl ?_
  obtain ⟨v2, hv, h⟩ := ruB_inv h
  refine ru_callNi (as := [.int v1, .int x2]) (st := []) ddX5_forgets_7 cnX5_46 (wX10_has 1 (Nat.le_refl _) v1 x2 A hv) rfl (Nat.le_trans (m := 2) (by decide) hd) (Nat.le_of_ble_eq_true rfl) ?_
  clear hv
  refine ru_istore_n ddX5_forgets_10 (by decide) rfl rfl ?_
  refine ru_aload_n ddX5_forgets_11 rfl ?_
  refine ru_getR (r := 7) ddX5_forgets_12 flX5_24 rfl rfl ?_
  refine ru_iload_n ddX5_forgets_15 rfl ?_
  refine ru_dup2 ddX5_forgets_16 rfl rfl ?_
  obtain ⟨v3, hv, h⟩ := ruB_inv h
  refine ru_iald ddX5_forgets_17 rfl hv ?_
  clear hv
  refine ru_iconst (1 : Int32) ddX5_forgets_18 rfl ?_
  refine ru_iload_n ddX5_forgets_19 rfl ?_
  refine ru_ishl ddX5_forgets_20 ?_
  refine ru_iconst (-1 : Int32) ddX5_forgets_21 rfl ?_
  refine ru_ixor ddX5_forgets_22 ?_
  refine ru_iand ddX5_forgets_23 ?_
  obtain ⟨A4, hv, h⟩ := ruB_inv h
  refine ru_iast ddX5_forgets_24 rfl hv ?_
  clear hv
  refine ru_aload_n ddX5_forgets_25 rfl ?_
  refine ru_getR (r := 8) ddX5_forgets_26 flX5_27 rfl rfl ?_
  refine ru_iload_n ddX5_forgets_29 rfl ?_
  refine ru_dup2 ddX5_forgets_30 rfl rfl ?_
  obtain ⟨v5, hv, h⟩ := ruB_inv h
  refine ru_iald ddX5_forgets_31 rfl hv ?_
  clear hv
  refine ru_iconst (1 : Int32) ddX5_forgets_32 rfl ?_
  refine ru_iload_n ddX5_forgets_33 rfl ?_
  refine ru_ishl ddX5_forgets_34 ?_
  refine ru_iconst (-1 : Int32) ddX5_forgets_35 rfl ?_
  refine ru_ixor ddX5_forgets_36 ?_
  refine ru_iand ddX5_forgets_37 ?_
  obtain ⟨A6, hv, h⟩ := ruB_inv h
  refine ru_iast ddX5_forgets_38 rfl hv ?_
  clear hv
  refine ru_iload_n ddX5_forgets_39 rfl ?_
  obtain ⟨_, hz, h⟩ := ruB_inv h
  exact ru_zretW ddX5_forgets_40 rfl (rubz_eq hz) h
theorem wX10_forget {E : ruE} (d : Nat) (hd : 3 ≤ d) (x1 : Int32) (x2 : Int32) (A : ruA) {r : Int32} {B : ruA} (h : fX10_forget x1 x2 A = some (r, B)) : ruC E mmX10_forget d [rurf E 0, .int x1, .int x2] A (ruPr r B) := by
  refine ruC.of (L := [some (rurf E 0), some (.int x1), some (.int x2)]) (by decide) rfl (Nat.le_of_ble_eq_true rfl) rfl ?_
  unfold fX10_forget at h
  refine ru_aload_n ddX10_forget_0 rfl ?_
  refine ru_iload_n ddX10_forget_1 rfl ?_
  obtain ⟨v1, hv, h⟩ := ruB_inv h
  refine ru_callVi (as := [.int x1]) (st := []) ddX10_forget_2 cvX10_113 rfl (wX10_isChild 2 (Nat.le_refl _) x1 A hv) rfl (Nat.le_trans (m := 3) (by decide) hd) (Nat.le_of_ble_eq_true rfl) ?_
  clear hv
  refine ru_if_eq 15 ddX10_forget_5 (by decide) (fun hc => ?_) (fun hc => ?_)
  · rw [if_pos hc] at h
    refine ru_aload_n ddX10_forget_15 rfl ?_
    refine ru_ldc (v := (-1000001 : Int32)) ddX10_forget_16 ckX10_81 ?_
    obtain ⟨v2, A3, hv, h⟩ := ruB2_inv h
    refine ru_callVi (as := [.int (-1000001 : Int32)]) (st := []) ddX10_forget_18 cvX10_82 rfl (wX10_finding 2 (Nat.le_refl _) (-1000001 : Int32) A hv) rfl (Nat.le_trans (m := 3) (by decide) hd) (Nat.le_of_ble_eq_true rfl) ?_
    clear hv
    exact ru_iretW ddX10_forget_21 rfl h
  · rw [if_neg hc] at h
    refine ru_iload_n ddX10_forget_8 rfl ?_
    obtain ⟨v4, hv, h⟩ := ruB_inv h
    refine ru_callSi (as := [.int x2]) (st := []) ddX10_forget_9 csX10_73 (wX10_isQuestion 2 (Nat.le_refl _) x2 A hv) rfl (Nat.le_trans (m := 3) (by decide) hd) (Nat.le_of_ble_eq_true rfl) ?_
    clear hv
    refine ru_if_ne 22 ddX10_forget_12 (by decide) (fun hc => ?_) (fun hc => ?_)
    · rw [if_neg hc] at h
      refine ru_aload_n ddX10_forget_22 rfl ?_
      refine ru_getR (r := 2) ddX10_forget_23 flX10_27 rfl rfl ?_
      refine ru_iload_n ddX10_forget_26 rfl ?_
      refine ru_iload_n ddX10_forget_27 rfl ?_
      obtain ⟨v5, A6, hv, h⟩ := ruB2_inv h
      refine ru_callVi (as := [.int x1, .int x2]) (st := []) ddX10_forget_28 cvX10_120 rfl (wX5_forgets 2 (Nat.le_refl _) x1 x2 A hv) rfl (Nat.le_trans (m := 3) (by decide) hd) (Nat.le_of_ble_eq_true rfl) ?_
      clear hv
      refine ru_if_eq 38 ddX10_forget_31 (by decide) (fun hc => ?_) (fun hc => ?_)
      · rw [if_pos hc] at h
        refine ru_iconst (0 : Int32) ddX10_forget_38 rfl ?_
        exact ru_iretW ddX10_forget_39 rfl h
      · rw [if_neg hc] at h
        refine ru_iconst (1 : Int32) ddX10_forget_34 rfl ?_
        refine ru_goto 39 ddX10_forget_35 (by decide) ?_
        exact ru_iretW ddX10_forget_39 rfl h
    · rw [if_pos hc] at h
      refine ru_aload_n ddX10_forget_15 rfl ?_
      refine ru_ldc (v := (-1000001 : Int32)) ddX10_forget_16 ckX10_81 ?_
      obtain ⟨v7, A8, hv, h⟩ := ruB2_inv h
      refine ru_callVi (as := [.int (-1000001 : Int32)]) (st := []) ddX10_forget_18 cvX10_82 rfl (wX10_finding 2 (Nat.le_refl _) (-1000001 : Int32) A hv) rfl (Nat.le_trans (m := 3) (by decide) hd) (Nat.le_of_ble_eq_true rfl) ?_
      clear hv
      exact ru_iretW ddX10_forget_21 rfl h
theorem wX6_place {E : ruE} (d : Nat) (hd : 1 ≤ d) (x0 : Int32) (x1 : Int32) (A : ruA) {r : Int32} (h : fX6_place x0 x1 = some r) : ruC E mmX6_place d [.int x0, .int x1] A (ruPr r A) := by
  refine ruC.of (L := [some (.int x0), some (.int x1)]) (by decide) rfl (Nat.le_of_ble_eq_true rfl) rfl ?_
  unfold fX6_place at h
  refine ru_iload_n ddX6_place_0 rfl ?_
  refine ru_bipush (6 : Int32) ddX6_place_1 rfl ?_
  refine ru_imul ddX6_place_3 ?_
  refine ru_iload_n ddX6_place_4 rfl ?_
  refine ru_iadd ddX6_place_5 ?_
  exact ru_iretP ddX6_place_6 rfl h
theorem wX6_howManyOf_l4 {E : ruE} {d : Nat} (hd : 2 ≤ d) {β : Type} {Q : Option Value → ruA → Prop} {res : β} (x1 : Int32) (A : ruA) {k32 : Int32 → Option (β)} (hk32 : ∀ (x2 : Int32), k32 x2 = some res → ruW E mmX6_howManyOf d Q 32 [none, none, some (.int x2), none] [] A) : ∀ (n : Nat) (x2 : Int32) (x3 : Int32), fX6_howManyOf_l4 x1 A k32 n x2 x3 = some res → ruW E mmX6_howManyOf d Q 4 [some (rurf E 9), some (.int x1), some (.int x2), some (.int x3)] [] A := by
  intro n
  induction n with
  | zero =>
    intro x2 x3 h
    exact absurd h (by rw [fX6_howManyOf_l4]; exact fun h => nomatch h)
  | succ n ih =>
    intro x2 x3 h
    rw [fX6_howManyOf_l4] at h
    refine ru_iload_n ddX6_howManyOf_4 rfl ?_
    refine ru_bipush (6 : Int32) ddX6_howManyOf_5 rfl ?_
    refine ru_icmp_ge 32 ddX6_howManyOf_7 (by decide) (fun hc => ?_) (fun hc => ?_)
    · rw [if_pos hc] at h
      refine ru_wk (L2 := [none, none, some (.int x2), none]) ⟨rfl, trivial⟩ ?_
      exact hk32 x2 h
    · rw [if_neg hc] at h
      refine ru_aload_n ddX6_howManyOf_10 rfl ?_
      refine ru_getR (r := 10) ddX6_howManyOf_11 flX6_9 rfl rfl ?_
      refine ru_iload_n ddX6_howManyOf_14 rfl ?_
      refine ru_iload_n ddX6_howManyOf_15 rfl ?_
      obtain ⟨v1, hv, h⟩ := ruB_inv h
      refine ru_callSi (as := [.int x1, .int x3]) (st := [rurf E 10]) ddX6_howManyOf_16 csX6_59 (wX6_place 1 (Nat.le_refl _) x1 x3 A hv) rfl (Nat.le_trans (m := 2) (by decide) hd) (Nat.le_of_ble_eq_true rfl) ?_
      clear hv
      obtain ⟨v2, hv, h⟩ := ruB_inv h
      refine ru_zald ddX6_howManyOf_19 rfl hv ?_
      clear hv
      obtain ⟨v3, hq, h⟩ := ruB_inv h
      have J : ruW E mmX6_howManyOf d Q 26 [some (rurf E 9), some (.int x1), some (.int v3), some (.int x3)] [] A := by
          refine ru_iinc (x3 + (1 : Int32)) ddX6_howManyOf_26 (by decide) rfl rfl rfl rfl ?_
          refine ru_goto 4 ddX6_howManyOf_29 (by decide) ?_
          exact ih v3 (x3 + (1 : Int32)) h
      replace h := hq
      clear hq
      refine ru_if_eq 26 ddX6_howManyOf_20 (by decide) (fun hc => ?_) (fun hc => ?_)
      · rw [if_pos hc] at h
        refine ru_wk (L2 := [some (rurf E 9), some (.int x1), some (.int x2), some (.int x3)]) ⟨rfl, rfl, rfl, rfl, trivial⟩ ?_
        obtain rfl := ruS1 h
        exact J
      · rw [if_neg hc] at h
        refine ru_iinc (x2 + (1 : Int32)) ddX6_howManyOf_23 (by decide) rfl rfl rfl rfl ?_
        refine ru_wk (L2 := [some (rurf E 9), some (.int x1), some (.int (x2 + (1 : Int32))), some (.int x3)]) ⟨rfl, rfl, rfl, rfl, trivial⟩ ?_
        obtain rfl := ruS1 h
        exact J
theorem wX6_howManyOf {E : ruE} (d : Nat) (hd : 2 ≤ d) (x1 : Int32) (A : ruA) {r : Int32} (h : fX6_howManyOf x1 A = some r) : ruC E mmX6_howManyOf d [rurf E 9, .int x1] A (ruPr r A) := by
  refine ruC.of (L := [some (rurf E 9), some (.int x1), none, none]) (by decide) rfl (Nat.le_of_ble_eq_true rfl) rfl ?_
  unfold fX6_howManyOf at h
  refine ru_iconst (0 : Int32) ddX6_howManyOf_0 rfl ?_
  refine ru_istore_n ddX6_howManyOf_1 (by decide) rfl rfl ?_
  refine ru_iconst (0 : Int32) ddX6_howManyOf_2 rfl ?_
  refine ru_istore_n ddX6_howManyOf_3 (by decide) rfl rfl ?_
  exact wX6_howManyOf_l4 hd x1 A (fun v4 h => by
        refine ru_iload_n ddX6_howManyOf_32 rfl ?_
        exact ru_iretP ddX6_howManyOf_33 rfl h) ruF (0 : Int32) (0 : Int32) h
theorem wX10_childIs {E : ruE} (d : Nat) (hd : 3 ≤ d) (x1 : Int32) (x2 : Int32) (A : ruA) {r : Int32} {B : ruA} (h : fX10_childIs x1 x2 A = some (r, B)) : ruC E mmX10_childIs d [rurf E 0, .int x1, .int x2] A (ruPr r B) := by
  refine ruC.of (L := [some (rurf E 0), some (.int x1), some (.int x2)]) (by decide) rfl (Nat.le_of_ble_eq_true rfl) rfl ?_
  unfold fX10_childIs at h
  refine ru_aload_n ddX10_childIs_0 rfl ?_
  refine ru_iload_n ddX10_childIs_1 rfl ?_
  obtain ⟨v1, hv, h⟩ := ruB_inv h
  refine ru_callVi (as := [.int x1]) (st := []) ddX10_childIs_2 cvX10_113 rfl (wX10_isChild 2 (Nat.le_refl _) x1 A hv) rfl (Nat.le_trans (m := 3) (by decide) hd) (Nat.le_of_ble_eq_true rfl) ?_
  clear hv
  refine ru_if_eq 17 ddX10_childIs_5 (by decide) (fun hc => ?_) (fun hc => ?_)
  · rw [if_pos hc] at h
    refine ru_aload_n ddX10_childIs_17 rfl ?_
    refine ru_ldc (v := (-1000001 : Int32)) ddX10_childIs_18 ckX10_81 ?_
    obtain ⟨v2, A3, hv, h⟩ := ruB2_inv h
    refine ru_callVi (as := [.int (-1000001 : Int32)]) (st := []) ddX10_childIs_20 cvX10_82 rfl (wX10_finding 2 (Nat.le_refl _) (-1000001 : Int32) A hv) rfl (Nat.le_trans (m := 3) (by decide) hd) (Nat.le_of_ble_eq_true rfl) ?_
    clear hv
    exact ru_iretW ddX10_childIs_23 rfl h
  · rw [if_neg hc] at h
    refine ru_iload_n ddX10_childIs_8 rfl ?_
    refine ru_iconst (0 : Int32) ddX10_childIs_9 rfl ?_
    refine ru_iconst (4 : Int32) ddX10_childIs_10 rfl ?_
    obtain ⟨v4, hv, h⟩ := ruB_inv h
    refine ru_callSi (as := [.int x2, .int (0 : Int32), .int (4 : Int32)]) (st := []) ddX10_childIs_11 csX10_77 (wX10_isWithin 1 (Nat.le_refl _) x2 (0 : Int32) (4 : Int32) A hv) rfl (Nat.le_trans (m := 3) (by decide) hd) (Nat.le_of_ble_eq_true rfl) ?_
    clear hv
    refine ru_if_ne 24 ddX10_childIs_14 (by decide) (fun hc => ?_) (fun hc => ?_)
    · rw [if_neg hc] at h
      refine ru_iload_n ddX10_childIs_24 rfl ?_
      by_cases hc0 : x2 = (0 : Int32)
      · rw [if_pos hc0] at h
        refine ru_tabC 56 ddX10_childIs_25 hc0 ⟨by decide, by decide, _, rfl, by decide⟩ ?_
        refine ru_aload_n ddX10_childIs_56 rfl ?_
        refine ru_getR (r := 2) ddX10_childIs_57 flX10_27 rfl rfl ?_
        refine ru_getR (r := 5) ddX10_childIs_60 flX10_123 rfl rfl ?_
        refine ru_iload_n ddX10_childIs_63 rfl ?_
        obtain ⟨v5, hv, h⟩ := ruB_inv h
        refine ru_iald ddX10_childIs_64 rfl hv ?_
        clear hv
        exact ru_iretW ddX10_childIs_65 rfl h
      · rw [if_neg hc0] at h
        by_cases hc1 : x2 = (1 : Int32)
        · rw [if_pos hc1] at h
          refine ru_tabC 66 ddX10_childIs_25 hc1 ⟨by decide, by decide, _, rfl, by decide⟩ ?_
          refine ru_aload_n ddX10_childIs_66 rfl ?_
          refine ru_getR (r := 2) ddX10_childIs_67 flX10_27 rfl rfl ?_
          refine ru_getR (r := 6) ddX10_childIs_70 flX10_126 rfl rfl ?_
          refine ru_iload_n ddX10_childIs_73 rfl ?_
          obtain ⟨v6, hv, h⟩ := ruB_inv h
          refine ru_iald ddX10_childIs_74 rfl hv ?_
          clear hv
          exact ru_iretW ddX10_childIs_75 rfl h
        · rw [if_neg hc1] at h
          by_cases hc2 : x2 = (2 : Int32)
          · rw [if_pos hc2] at h
            refine ru_tabC 76 ddX10_childIs_25 hc2 ⟨by decide, by decide, _, rfl, by decide⟩ ?_
            refine ru_aload_n ddX10_childIs_76 rfl ?_
            refine ru_getR (r := 2) ddX10_childIs_77 flX10_27 rfl rfl ?_
            refine ru_getR (r := 7) ddX10_childIs_80 flX10_129 rfl rfl ?_
            refine ru_iload_n ddX10_childIs_83 rfl ?_
            obtain ⟨v7, hv, h⟩ := ruB_inv h
            refine ru_iald ddX10_childIs_84 rfl hv ?_
            clear hv
            exact ru_iretW ddX10_childIs_85 rfl h
          · rw [if_neg hc2] at h
            by_cases hc3 : x2 = (3 : Int32)
            · rw [if_pos hc3] at h
              refine ru_tabC 86 ddX10_childIs_25 hc3 ⟨by decide, by decide, _, rfl, by decide⟩ ?_
              refine ru_aload_n ddX10_childIs_86 rfl ?_
              refine ru_getR (r := 2) ddX10_childIs_87 flX10_27 rfl rfl ?_
              refine ru_getR (r := 8) ddX10_childIs_90 flX10_132 rfl rfl ?_
              refine ru_iload_n ddX10_childIs_93 rfl ?_
              obtain ⟨v8, hv, h⟩ := ruB_inv h
              refine ru_iald ddX10_childIs_94 rfl hv ?_
              clear hv
              exact ru_iretW ddX10_childIs_95 rfl h
            · rw [if_neg hc3] at h
              refine ru_tabD 96 ddX10_childIs_25 (fun j h9 => ?_) (by decide) ?_
              · have h8 : j = 0 ∨ j = 1 ∨ j = 2 ∨ j = 3 := by omega
                rcases h8 with rfl | rfl | rfl | rfl
                · exact fun e => hc0 (e.trans (by decide))
                · exact fun e => hc1 (e.trans (by decide))
                · exact fun e => hc2 (e.trans (by decide))
                · exact fun e => hc3 (e.trans (by decide))
              refine ru_aload_n ddX10_childIs_96 rfl ?_
              refine ru_getR (r := 9) ddX10_childIs_97 flX10_32 rfl rfl ?_
              refine ru_iload_n ddX10_childIs_100 rfl ?_
              obtain ⟨v9, hv, h⟩ := ruB_inv h
              refine ru_callVi (as := [.int x1]) (st := []) ddX10_childIs_101 cvX10_135 rfl (wX6_howManyOf 2 (Nat.le_refl _) x1 A hv) rfl (Nat.le_trans (m := 3) (by decide) hd) (Nat.le_of_ble_eq_true rfl) ?_
              clear hv
              exact ru_iretW ddX10_childIs_104 rfl h
    · rw [if_pos hc] at h
      refine ru_aload_n ddX10_childIs_17 rfl ?_
      refine ru_ldc (v := (-1000001 : Int32)) ddX10_childIs_18 ckX10_81 ?_
      obtain ⟨v10, A11, hv, h⟩ := ruB2_inv h
      refine ru_callVi (as := [.int (-1000001 : Int32)]) (st := []) ddX10_childIs_20 cvX10_82 rfl (wX10_finding 2 (Nat.le_refl _) (-1000001 : Int32) A hv) rfl (Nat.le_trans (m := 3) (by decide) hd) (Nat.le_of_ble_eq_true rfl) ?_
      clear hv
      exact ru_iretW ddX10_childIs_23 rfl h
theorem wX10_year {E : ruE} (d : Nat) (hd : 3 ≤ d) (A : ruA) {r : Int32} {B : ruA} (h : fX10_year A = some (r, B)) : ruC E mmX10_year d [rurf E 0] A (ruPr r B) := by
  refine ruC.of (L := [some (rurf E 0)]) (by decide) rfl (Nat.le_of_ble_eq_true rfl) rfl ?_
  unfold fX10_year at h
  refine ru_aload_n ddX10_year_0 rfl ?_
  refine ru_getR (r := 2) ddX10_year_1 flX10_27 rfl rfl ?_
  refine ru_getI ddX10_year_4 flX10_140 rfl ?_
  refine ru_iconst (5 : Int32) ddX10_year_7 rfl ?_
  refine ru_icmp_lt 18 ddX10_year_8 (by decide) (fun hc => ?_) (fun hc => ?_)
  · rw [if_pos hc] at h
    refine ru_aload_n ddX10_year_18 rfl ?_
    refine ru_getR (r := 2) ddX10_year_19 flX10_27 rfl rfl ?_
    refine ru_dup ddX10_year_22 rfl ?_
    refine ru_getI ddX10_year_23 flX10_140 rfl ?_
    refine ru_iconst (1 : Int32) ddX10_year_26 rfl ?_
    refine ru_iadd ddX10_year_27 ?_
    obtain ⟨A1, hv, h⟩ := ruB_inv h
    refine ru_putI2 ddX10_year_28 flX10_140 fp5_0 rfl hv ?_
    clear hv
    refine ru_aload_n ddX10_year_31 rfl ?_
    refine ru_getR (r := 2) ddX10_year_32 flX10_27 rfl rfl ?_
    refine ru_getI ddX10_year_35 flX10_140 rfl ?_
    exact ru_iretW ddX10_year_38 rfl h
  · rw [if_neg hc] at h
    refine ru_aload_n ddX10_year_11 rfl ?_
    refine ru_ldc (v := (-1000002 : Int32)) ddX10_year_12 ckX10_97 ?_
    obtain ⟨v2, A3, hv, h⟩ := ruB2_inv h
    refine ru_callVi (as := [.int (-1000002 : Int32)]) (st := []) ddX10_year_14 cvX10_82 rfl (wX10_finding 2 (Nat.le_refl _) (-1000002 : Int32) A hv) rfl (Nat.le_trans (m := 3) (by decide) hd) (Nat.le_of_ble_eq_true rfl) ?_
    clear hv
    exact ru_iretW ddX10_year_17 rfl h
theorem wX10_openSheet {E : ruE} (d : Nat) (hd : 2 ≤ d) (x1 : Int32) (A : ruA) {r : Int32} (h : fX10_openSheet x1 A = some r) : ruC E mmX10_openSheet d [rurf E 0, .int x1] A (ruPr r A) := by
  refine ruC.of (L := [some (rurf E 0), some (.int x1)]) (by decide) rfl (Nat.le_of_ble_eq_true rfl) rfl ?_
  unfold fX10_openSheet at h
  refine ru_iload_n ddX10_openSheet_0 rfl ?_
  refine ru_aload_n ddX10_openSheet_1 rfl ?_
  refine ru_getR (r := 2) ddX10_openSheet_2 flX10_27 rfl rfl ?_
  refine ru_getI ddX10_openSheet_5 flX10_140 rfl ?_
  obtain ⟨v1, hv, h⟩ := ruB_inv h
  refine ru_callSi (as := [.int x1, .int (A.1 2 0)]) (st := []) ddX10_openSheet_8 csX10_206 (wX6_place 1 (Nat.le_refl _) x1 (A.1 2 0) A hv) rfl (Nat.le_trans (m := 2) (by decide) hd) (Nat.le_of_ble_eq_true rfl) ?_
  clear hv
  exact ru_iretP ddX10_openSheet_11 rfl h
theorem wJ7_rangeCheck_23922 {E : ruE} (d : Nat) (hd : 1 ≤ d) (x0 : Int32) (x1 : Int32) (x2 : Int32) (A : ruA) {u : Unit} (h : fJ7_rangeCheck_23922 x0 x1 x2 = some u) : ruC E mmJ7_rangeCheck_23922 d [.int x0, .int x1, .int x2] A (ruPv A) := by
  refine ruC.of (L := [some (.int x0), some (.int x1), some (.int x2)]) (by decide) rfl (Nat.le_of_ble_eq_true rfl) rfl ?_
  unfold fJ7_rangeCheck_23922 at h
  refine ru_iload_n ddJ7_rangeCheck_23922_0 rfl ?_
  refine ru_iload_n ddJ7_rangeCheck_23922_1 rfl ?_
  refine ru_icmp_le 46 ddJ7_rangeCheck_23922_2 (by decide) (fun hc => ?_) (fun hc => ?_)
  · rw [if_pos hc] at h
    refine ru_iload_n ddJ7_rangeCheck_23922_46 rfl ?_
    refine ru_if_ge 59 ddJ7_rangeCheck_23922_47 (by decide) (fun hc => ?_) (fun hc => ?_)
    · rw [if_pos hc] at h
      refine ru_iload_n ddJ7_rangeCheck_23922_59 rfl ?_
      refine ru_iload_n ddJ7_rangeCheck_23922_60 rfl ?_
      refine ru_icmp_le 73 ddJ7_rangeCheck_23922_61 (by decide) (fun hc => ?_) (fun hc => ?_)
      · rw [if_pos hc] at h
        exact ru_vretU ddJ7_rangeCheck_23922_73 rfl h
      · rw [if_neg hc] at h
        cases h
    · rw [if_neg hc] at h
      cases h
  · rw [if_neg hc] at h
    cases h
theorem wJ7_fill_fda19_l10 {E : ruE} {d : Nat} (hd : 2 ≤ d) {β : Type} {Q : Option Value → ruA → Prop} {res : β} (x0 : Nat) (x2 : Int32) (x3 : Int32) {k27 : ruA → Option (β)} (hk27 : ∀ (A : ruA), k27 A = some res → ruW E mmJ7_fill_fda19 d Q 27 [none, none, none, none, none] [] A) : ∀ (n : Nat) (x4 : Int32) (A : ruA), fJ7_fill_fda19_l10 x0 x2 x3 k27 n x4 A = some res → ruW E mmJ7_fill_fda19 d Q 10 [some (rurf E x0), none, some (.int x2), some (.int x3), some (.int x4)] [] A := by
  intro n
  induction n with
  | zero =>
    intro x4 A h
    exact absurd h (by rw [fJ7_fill_fda19_l10]; exact fun h => nomatch h)
  | succ n ih =>
    intro x4 A h
    rw [fJ7_fill_fda19_l10] at h
    refine ru_iload ddJ7_fill_fda19_10 rfl ?_
    refine ru_iload_n ddJ7_fill_fda19_12 rfl ?_
    refine ru_icmp_ge 27 ddJ7_fill_fda19_13 (by decide) (fun hc => ?_) (fun hc => ?_)
    · rw [if_pos hc] at h
      refine ru_wk (L2 := [none, none, none, none, none]) trivial ?_
      exact hk27 A h
    · rw [if_neg hc] at h
      refine ru_aload_n ddJ7_fill_fda19_16 rfl ?_
      refine ru_iload ddJ7_fill_fda19_17 rfl ?_
      refine ru_iload_n ddJ7_fill_fda19_19 rfl ?_
      obtain ⟨n2, hn2, h⟩ := ruB_inv h
      obtain ⟨A3, hv, h⟩ := ruB_inv h
      refine ru_iast ddJ7_fill_fda19_20 (rudI_eq hn2) hv ?_
      clear hv
      refine ru_iinc (x4 + (1 : Int32)) ddJ7_fill_fda19_21 (by decide) rfl rfl rfl rfl ?_
      refine ru_goto 10 ddJ7_fill_fda19_24 (by decide) ?_
      exact ih (x4 + (1 : Int32)) A3 h
theorem wJ7_fill_fda19 {E : ruE} (d : Nat) (hd : 2 ≤ d) (x0 : Nat) (x1 : Int32) (x2 : Int32) (x3 : Int32) (A : ruA) {B : ruA} (h : fJ7_fill_fda19 x0 x1 x2 x3 A = some B) : ruC E mmJ7_fill_fda19 d [rurf E x0, .int x1, .int x2, .int x3] A (ruPv B) := by
  refine ruC.of (L := [some (rurf E x0), some (.int x1), some (.int x2), some (.int x3), none]) (by decide) rfl (Nat.le_of_ble_eq_true rfl) rfl ?_
  unfold fJ7_fill_fda19 at h
  refine ru_aload_n ddJ7_fill_fda19_0 rfl ?_
  obtain ⟨n1, hn1, h⟩ := ruB_inv h
  refine ru_alen (v := Int32.ofNat n1) ddJ7_fill_fda19_1 (rudI_eq hn1) (by decide) rfl ?_
  refine ru_iload_n ddJ7_fill_fda19_2 rfl ?_
  refine ru_iload_n ddJ7_fill_fda19_3 rfl ?_
  obtain ⟨_, hv, h⟩ := ruB_inv h
  refine ru_callSv (as := [.int (Int32.ofNat n1), .int x1, .int x2]) (st := []) ddJ7_fill_fda19_4 csJ7_13 (wJ7_rangeCheck_23922 1 (Nat.le_refl _) (Int32.ofNat n1) x1 x2 A hv) rfl (Nat.le_trans (m := 2) (by decide) hd) (Nat.le_of_ble_eq_true rfl) ?_
  clear hv
  refine ru_iload_n ddJ7_fill_fda19_7 rfl ?_
  refine ru_istore ddJ7_fill_fda19_8 (by decide) rfl rfl ?_
  refine ru_wk (L2 := [some (rurf E x0), none, some (.int x2), some (.int x3), some (.int x1)]) ⟨rfl, rfl, rfl, rfl, trivial⟩ ?_
  exact wJ7_fill_fda19_l10 hd x0 x2 x3 (fun A4 h => by
        exact ru_vretW ddJ7_fill_fda19_27 rfl h) ruF x1 A h
theorem wX6_begin {E : ruE} (d : Nat) (hd : 3 ≤ d) (x1 : Int32) (A : ruA) {B : ruA} (h : fX6_begin x1 A = some B) : ruC E mmX6_begin d [rurf E 9, .int x1] A (ruPv B) := by
  refine ruC.of (L := [some (rurf E 9), some (.int x1)]) (by decide) rfl (Nat.le_of_ble_eq_true rfl) rfl ?_
  unfold fX6_begin at h
  refine ru_aload_n ddX6_begin_0 rfl ?_
  refine ru_getR (r := 10) ddX6_begin_1 flX6_9 rfl rfl ?_
  refine ru_iload_n ddX6_begin_4 rfl ?_
  refine ru_iconst (1 : Int32) ddX6_begin_5 rfl ?_
  obtain ⟨A1, hv, h⟩ := ruB_inv h
  refine ru_zast ddX6_begin_6 rfl hv ?_
  clear hv
  refine ru_aload_n ddX6_begin_7 rfl ?_
  refine ru_getR (r := 11) ddX6_begin_8 flX6_15 rfl rfl ?_
  refine ru_iload_n ddX6_begin_11 rfl ?_
  refine ru_bipush (12 : Int32) ddX6_begin_12 rfl ?_
  refine ru_imul ddX6_begin_14 ?_
  refine ru_iload_n ddX6_begin_15 rfl ?_
  refine ru_iconst (1 : Int32) ddX6_begin_16 rfl ?_
  refine ru_iadd ddX6_begin_17 ?_
  refine ru_bipush (12 : Int32) ddX6_begin_18 rfl ?_
  refine ru_imul ddX6_begin_20 ?_
  refine ru_iconst (-1 : Int32) ddX6_begin_21 rfl ?_
  obtain ⟨A2, hv, h⟩ := ruB_inv h
  refine ru_callSv (as := [rurf E 11, .int (x1 * (12 : Int32)), .int ((x1 + (1 : Int32)) * (12 : Int32)), .int (-1 : Int32)]) (st := []) ddX6_begin_22 csX6_31 (wJ7_fill_fda19 2 (Nat.le_refl _) 11 (x1 * (12 : Int32)) ((x1 + (1 : Int32)) * (12 : Int32)) (-1 : Int32) A1 hv) rfl (Nat.le_trans (m := 3) (by decide) hd) (Nat.le_of_ble_eq_true rfl) ?_
  clear hv
  refine ru_aload_n ddX6_begin_25 rfl ?_
  refine ru_getR (r := 12) ddX6_begin_26 flX6_19 rfl rfl ?_
  refine ru_iload_n ddX6_begin_29 rfl ?_
  refine ru_bipush (12 : Int32) ddX6_begin_30 rfl ?_
  refine ru_imul ddX6_begin_32 ?_
  refine ru_iload_n ddX6_begin_33 rfl ?_
  refine ru_iconst (1 : Int32) ddX6_begin_34 rfl ?_
  refine ru_iadd ddX6_begin_35 ?_
  refine ru_bipush (12 : Int32) ddX6_begin_36 rfl ?_
  refine ru_imul ddX6_begin_38 ?_
  refine ru_iconst (0 : Int32) ddX6_begin_39 rfl ?_
  obtain ⟨A3, hv, h⟩ := ruB_inv h
  refine ru_callSv (as := [rurf E 12, .int (x1 * (12 : Int32)), .int ((x1 + (1 : Int32)) * (12 : Int32)), .int (0 : Int32)]) (st := []) ddX6_begin_40 csX6_31 (wJ7_fill_fda19 2 (Nat.le_refl _) 12 (x1 * (12 : Int32)) ((x1 + (1 : Int32)) * (12 : Int32)) (0 : Int32) A2 hv) rfl (Nat.le_trans (m := 3) (by decide) hd) (Nat.le_of_ble_eq_true rfl) ?_
  clear hv
  refine ru_aload_n ddX6_begin_43 rfl ?_
  refine ru_getR (r := 13) ddX6_begin_44 flX6_22 rfl rfl ?_
  refine ru_iload_n ddX6_begin_47 rfl ?_
  refine ru_iconst (3 : Int32) ddX6_begin_48 rfl ?_
  refine ru_imul ddX6_begin_49 ?_
  refine ru_iload_n ddX6_begin_50 rfl ?_
  refine ru_iconst (1 : Int32) ddX6_begin_51 rfl ?_
  refine ru_iadd ddX6_begin_52 ?_
  refine ru_iconst (3 : Int32) ddX6_begin_53 rfl ?_
  refine ru_imul ddX6_begin_54 ?_
  refine ru_iconst (0 : Int32) ddX6_begin_55 rfl ?_
  obtain ⟨A4, hv, h⟩ := ruB_inv h
  refine ru_callSv (as := [rurf E 13, .int (x1 * (3 : Int32)), .int ((x1 + (1 : Int32)) * (3 : Int32)), .int (0 : Int32)]) (st := []) ddX6_begin_56 csX6_31 (wJ7_fill_fda19 2 (Nat.le_refl _) 13 (x1 * (3 : Int32)) ((x1 + (1 : Int32)) * (3 : Int32)) (0 : Int32) A3 hv) rfl (Nat.le_trans (m := 3) (by decide) hd) (Nat.le_of_ble_eq_true rfl) ?_
  clear hv
  exact ru_vretW ddX6_begin_59 rfl h
theorem wX6_rubbing {E : ruE} (d : Nat) (hd : 1 ≤ d) (x0 : Int32) (x1 : Int32) (x2 : Int32) (A : ruA) {r : Int32} (h : fX6_rubbing x0 x1 x2 = some r) : ruC E mmX6_rubbing d [.int x0, .int x1, .int x2] A (ruPr r A) := by
  refine ruC.of (L := [some (.int x0), some (.int x1), some (.int x2)]) (by decide) rfl (Nat.le_of_ble_eq_true rfl) rfl ?_
  unfold fX6_rubbing at h
  refine ru_iload_n ddX6_rubbing_0 rfl ?_
  refine ru_iload_n ddX6_rubbing_1 rfl ?_
  refine ru_icmp_ne 7 ddX6_rubbing_2 (by decide) (fun hc => ?_) (fun hc => ?_)
  · rw [if_neg hc] at h
    refine ru_iload_n ddX6_rubbing_7 rfl ?_
    refine ru_iload_n ddX6_rubbing_8 rfl ?_
    refine ru_icmp_ne 16 ddX6_rubbing_9 (by decide) (fun hc => ?_) (fun hc => ?_)
    · rw [if_neg hc] at h
      refine ru_iconst (2 : Int32) ddX6_rubbing_16 rfl ?_
      exact ru_iretP ddX6_rubbing_17 rfl h
    · rw [if_pos hc] at h
      refine ru_iconst (0 : Int32) ddX6_rubbing_12 rfl ?_
      refine ru_goto 17 ddX6_rubbing_13 (by decide) ?_
      exact ru_iretP ddX6_rubbing_17 rfl h
  · rw [if_pos hc] at h
    refine ru_iconst (1 : Int32) ddX6_rubbing_5 rfl ?_
    exact ru_iretP ddX6_rubbing_6 rfl h
theorem wX6_marked {E : ruE} (d : Nat) (hd : 2 ≤ d) (x1 : Int32) (x2 : Int32) (x3 : Int32) (x4 : Int32) (x5 : Int32) (A : ruA) {r : Int32} {B : ruA} (h : fX6_marked x1 x2 x3 x4 x5 A = some (r, B)) : ruC E mmX6_marked d [rurf E 9, .int x1, .int x2, .int x3, .int x4, .int x5] A (ruPr r B) := by
  refine ruC.of (L := [some (rurf E 9), some (.int x1), some (.int x2), some (.int x3), some (.int x4), some (.int x5), none, none]) (by decide) rfl (Nat.le_of_ble_eq_true rfl) rfl ?_
  unfold fX6_marked at h
  refine ru_iload_n ddX6_marked_0 rfl ?_
  refine ru_bipush (12 : Int32) ddX6_marked_1 rfl ?_
  refine ru_imul ddX6_marked_3 ?_
  refine ru_iload_n ddX6_marked_4 rfl ?_
  refine ru_iadd ddX6_marked_5 ?_
  refine ru_istore ddX6_marked_6 (by decide) rfl rfl ?_
  refine ru_aload_n ddX6_marked_8 rfl ?_
  refine ru_getR (r := 11) ddX6_marked_9 flX6_15 rfl rfl ?_
  refine ru_iload ddX6_marked_12 rfl ?_
  obtain ⟨v1, hv, h⟩ := ruB_inv h
  refine ru_iald ddX6_marked_14 rfl hv ?_
  clear hv
  refine ru_istore ddX6_marked_15 (by decide) rfl rfl ?_
  refine ru_iload ddX6_marked_17 rfl ?_
  refine ru_iload ddX6_marked_19 rfl ?_
  refine ru_icmp_ne 26 ddX6_marked_21 (by decide) (fun hc => ?_) (fun hc => ?_)
  · rw [if_neg hc] at h
    refine ru_iload ddX6_marked_26 rfl ?_
    refine ru_iconst (-1 : Int32) ddX6_marked_28 rfl ?_
    obtain ⟨A2, hq, h⟩ := ruB_inv h
    have J : ruW E mmX6_marked d (ruPr r B) 54 [some (rurf E 9), none, none, some (.int x3), some (.int x4), none, some (.int ((x1 * (12 : Int32)) + x2)), none] [] A2 := by
        refine ru_aload_n ddX6_marked_54 rfl ?_
        refine ru_getR (r := 11) ddX6_marked_55 flX6_15 rfl rfl ?_
        refine ru_iload ddX6_marked_58 rfl ?_
        refine ru_iload ddX6_marked_60 rfl ?_
        obtain ⟨A6, hv, h⟩ := ruB_inv h
        refine ru_iast ddX6_marked_62 rfl hv ?_
        clear hv
        refine ru_aload_n ddX6_marked_63 rfl ?_
        refine ru_getR (r := 12) ddX6_marked_64 flX6_19 rfl rfl ?_
        refine ru_iload ddX6_marked_67 rfl ?_
        refine ru_iload_n ddX6_marked_69 rfl ?_
        obtain ⟨A7, hv, h⟩ := ruB_inv h
        refine ru_iast ddX6_marked_70 rfl hv ?_
        clear hv
        refine ru_iconst (1 : Int32) ddX6_marked_71 rfl ?_
        exact ru_zretW ddX6_marked_72 rfl (Or.inr rfl) h
    replace h := hq
    clear hq
    refine ru_icmp_eq 54 ddX6_marked_29 (by decide) (fun hc => ?_) (fun hc => ?_)
    · rw [if_pos hc] at h
      refine ru_wk (L2 := [some (rurf E 9), none, none, some (.int x3), some (.int x4), none, some (.int ((x1 * (12 : Int32)) + x2)), none]) ⟨rfl, rfl, rfl, rfl, trivial⟩ ?_
      obtain rfl := ruS1 h
      exact J
    · rw [if_neg hc] at h
      refine ru_aload_n ddX6_marked_32 rfl ?_
      refine ru_getR (r := 13) ddX6_marked_33 flX6_22 rfl rfl ?_
      refine ru_iload_n ddX6_marked_36 rfl ?_
      refine ru_iconst (3 : Int32) ddX6_marked_37 rfl ?_
      refine ru_imul ddX6_marked_38 ?_
      refine ru_iload ddX6_marked_39 rfl ?_
      refine ru_iload ddX6_marked_41 rfl ?_
      refine ru_iload ddX6_marked_43 rfl ?_
      obtain ⟨v3, hv, h⟩ := ruB_inv h
      refine ru_callSi (as := [.int v1, .int x4, .int x5]) (st := [.int (x1 * (3 : Int32)), rurf E 13]) ddX6_marked_45 csX6_37 (wX6_rubbing 1 (Nat.le_refl _) v1 x4 x5 A hv) rfl (Nat.le_trans (m := 2) (by decide) hd) (Nat.le_of_ble_eq_true rfl) ?_
      clear hv
      refine ru_iadd ddX6_marked_48 ?_
      refine ru_dup2 ddX6_marked_49 rfl rfl ?_
      obtain ⟨v4, hv, h⟩ := ruB_inv h
      refine ru_iald ddX6_marked_50 rfl hv ?_
      clear hv
      refine ru_iconst (1 : Int32) ddX6_marked_51 rfl ?_
      refine ru_iadd ddX6_marked_52 ?_
      obtain ⟨A5, hv, h⟩ := ruB_inv h
      refine ru_iast ddX6_marked_53 rfl hv ?_
      clear hv
      refine ru_wk (L2 := [some (rurf E 9), none, none, some (.int x3), some (.int x4), none, some (.int ((x1 * (12 : Int32)) + x2)), none]) ⟨rfl, rfl, rfl, rfl, trivial⟩ ?_
      obtain rfl := ruS1 h
      exact J
  · rw [if_pos hc] at h
    refine ru_iconst (0 : Int32) ddX6_marked_24 rfl ?_
    exact ru_zretW ddX6_marked_25 rfl (Or.inl rfl) h
theorem wX10_marks {E : ruE} (d : Nat) (hd : 3 ≤ d) (x1 : Int32) (x2 : Int32) (x3 : Int32) (x4 : Int32) (A : ruA) {r : Int32} {B : ruA} (h : fX10_marks x1 x2 x3 x4 A = some (r, B)) : ruC E mmX10_marks d [rurf E 0, .int x1, .int x2, .int x3, .int x4] A (ruPr r B) := by
  refine ruC.of (L := [some (rurf E 0), some (.int x1), some (.int x2), some (.int x3), some (.int x4)]) (by decide) rfl (Nat.le_of_ble_eq_true rfl) rfl ?_
  unfold fX10_marks at h
  refine ru_aload_n ddX10_marks_0 rfl ?_
  refine ru_getR (r := 9) ddX10_marks_1 flX10_32 rfl rfl ?_
  refine ru_iload_n ddX10_marks_4 rfl ?_
  refine ru_iload_n ddX10_marks_5 rfl ?_
  refine ru_iload_n ddX10_marks_6 rfl ?_
  refine ru_iload ddX10_marks_7 rfl ?_
  refine ru_aload_n ddX10_marks_9 rfl ?_
  refine ru_getR (r := 2) ddX10_marks_10 flX10_27 rfl rfl ?_
  refine ru_getR (r := 3) ddX10_marks_13 flX10_86 rfl rfl ?_
  refine ru_iload_n ddX10_marks_16 rfl ?_
  obtain ⟨v1, hv, h⟩ := ruB_inv h
  refine ru_iald ddX10_marks_17 rfl hv ?_
  clear hv
  obtain ⟨v2, A3, hv, h⟩ := ruB2_inv h
  refine ru_callVi (as := [.int x1, .int x2, .int x3, .int x4, .int v1]) (st := []) ddX10_marks_18 cvX10_383 rfl (wX6_marked 2 (Nat.le_refl _) x1 x2 x3 x4 v1 A hv) rfl (Nat.le_trans (m := 3) (by decide) hd) (Nat.le_of_ble_eq_true rfl) ?_
  clear hv
  obtain ⟨_, hz, h⟩ := ruB_inv h
  exact ru_zretW ddX10_marks_21 rfl (rubz_eq hz) h
theorem wX10_answerAll_l6 {E : ruE} {d : Nat} (hd : 4 ≤ d) {β : Type} {Q : Option Value → ruA → Prop} {res : β} (x1 : Int32) (x2 : Int32) {k136 : ruA → Option (β)} (hk136 : ∀ (A : ruA), k136 A = some res → ruW E mmX10_answerAll d Q 136 [none, none, none, none, none, none, none] [] A) : ∀ (n : Nat) (x4 : Int32) (x5 : Int32) (A : ruA), fX10_answerAll_l6 x1 x2 k136 n x4 x5 A = some res → ruW E mmX10_answerAll d Q 6 [some (rurf E 0), some (.int x1), some (.int x2), none, some (.int x4), some (.int x5), none] [] A := by
  intro n
  induction n with
  | zero =>
    intro x4 x5 A h
    exact absurd h (by rw [fX10_answerAll_l6]; exact fun h => nomatch h)
  | succ n ih =>
    intro x4 x5 A h
    rw [fX10_answerAll_l6] at h
    refine ru_iload ddX10_answerAll_6 rfl ?_
    refine ru_bipush (12 : Int32) ddX10_answerAll_8 rfl ?_
    refine ru_icmp_ge 136 ddX10_answerAll_10 (by decide) (fun hc => ?_) (fun hc => ?_)
    · rw [if_pos hc] at h
      refine ru_wk (L2 := [none, none, none, none, none, none, none]) trivial ?_
      exact hk136 A h
    · rw [if_neg hc] at h
      refine ru_aload_n ddX10_answerAll_13 rfl ?_
      refine ru_getR (r := 2) ddX10_answerAll_14 flX10_27 rfl rfl ?_
      refine ru_getR (r := 8) ddX10_answerAll_17 flX10_132 rfl rfl ?_
      refine ru_iload_n ddX10_answerAll_20 rfl ?_
      obtain ⟨v1, hv, h⟩ := ruB_inv h
      refine ru_iald ddX10_answerAll_21 rfl hv ?_
      clear hv
      refine ru_iload ddX10_answerAll_22 rfl ?_
      obtain ⟨v2, hv, h⟩ := ruB_inv h
      refine ru_callSi (as := [.int v1, .int x5]) (st := []) ddX10_answerAll_24 csX10_234 (wX10_has 1 (Nat.le_refl _) v1 x5 A hv) rfl (Nat.le_trans (m := 4) (by decide) hd) (Nat.le_of_ble_eq_true rfl) ?_
      clear hv
      obtain ⟨v3, A4, hq, h⟩ := ruB2_inv h
      have J : ruW E mmX10_answerAll d Q 130 [some (rurf E 0), some (.int x1), some (.int x2), none, some (.int v3), some (.int x5), none] [] A4 := by
          refine ru_iinc (x5 + (1 : Int32)) ddX10_answerAll_130 (by decide) rfl rfl rfl rfl ?_
          refine ru_goto 6 ddX10_answerAll_133 (by decide) ?_
          exact ih v3 (x5 + (1 : Int32)) A4 h
      replace h := hq
      clear hq
      refine ru_if_eq 52 ddX10_answerAll_27 (by decide) (fun hc => ?_) (fun hc => ?_)
      · rw [if_pos hc] at h
        refine ru_aload_n ddX10_answerAll_52 rfl ?_
        refine ru_getR (r := 2) ddX10_answerAll_53 flX10_27 rfl rfl ?_
        refine ru_getR (r := 7) ddX10_answerAll_56 flX10_129 rfl rfl ?_
        refine ru_iload_n ddX10_answerAll_59 rfl ?_
        obtain ⟨v5, hv, h⟩ := ruB_inv h
        refine ru_iald ddX10_answerAll_60 rfl hv ?_
        clear hv
        refine ru_iload ddX10_answerAll_61 rfl ?_
        obtain ⟨v6, hv, h⟩ := ruB_inv h
        refine ru_callSi (as := [.int v5, .int x5]) (st := []) ddX10_answerAll_63 csX10_234 (wX10_has 1 (Nat.le_refl _) v5 x5 A hv) rfl (Nat.le_trans (m := 4) (by decide) hd) (Nat.le_of_ble_eq_true rfl) ?_
        clear hv
        refine ru_if_eq 91 ddX10_answerAll_66 (by decide) (fun hc => ?_) (fun hc => ?_)
        · rw [if_pos hc] at h
          refine ru_iload ddX10_answerAll_91 rfl ?_
          refine ru_ldcw (v := (1103515245 : Int32)) ddX10_answerAll_93 ckX10_387 ?_
          refine ru_imul ddX10_answerAll_96 ?_
          refine ru_sipush (12345 : Int32) ddX10_answerAll_97 rfl ?_
          refine ru_iadd ddX10_answerAll_100 ?_
          refine ru_istore ddX10_answerAll_101 (by decide) rfl rfl ?_
          refine ru_iload ddX10_answerAll_103 rfl ?_
          refine ru_bipush (16 : Int32) ddX10_answerAll_105 rfl ?_
          refine ru_iushr2 ddX10_answerAll_107 ?_
          refine ru_iconst (5 : Int32) ddX10_answerAll_108 rfl ?_
          refine ru_irem ddX10_answerAll_109 (by decide) ?_
          refine ru_istore ddX10_answerAll_110 (by decide) rfl rfl ?_
          refine ru_iload ddX10_answerAll_112 rfl ?_
          refine ru_iconst (4 : Int32) ddX10_answerAll_114 rfl ?_
          refine ru_icmp_ge 130 ddX10_answerAll_115 (by decide) (fun hc => ?_) (fun hc => ?_)
          · rw [if_pos hc] at h
            refine ru_wk (L2 := [some (rurf E 0), some (.int x1), some (.int x2), none, some (.int ((x4 * (1103515245 : Int32)) + (12345 : Int32))), some (.int x5), none]) ⟨rfl, rfl, rfl, rfl, rfl, trivial⟩ ?_
            obtain ⟨rfl, rfl⟩ := ruS2 h
            exact J
          · rw [if_neg hc] at h
            refine ru_aload_n ddX10_answerAll_118 rfl ?_
            refine ru_iload_n ddX10_answerAll_119 rfl ?_
            refine ru_iload ddX10_answerAll_120 rfl ?_
            refine ru_bipush (7 : Int32) ddX10_answerAll_122 rfl ?_
            refine ru_iload ddX10_answerAll_124 rfl ?_
            obtain ⟨v7, A8, hv, h⟩ := ruB2_inv h
            refine ru_callVi (as := [.int x2, .int x5, .int (7 : Int32), .int ((ruushr ((x4 * (1103515245 : Int32)) + (12345 : Int32)) (16 : Int32)) - (ruushr ((x4 * (1103515245 : Int32)) + (12345 : Int32)) (16 : Int32)) / (5 : Int32) * (5 : Int32))]) (st := []) ddX10_answerAll_126 cvX10_180 rfl (wX10_marks 3 (Nat.le_refl _) x2 x5 (7 : Int32) ((ruushr ((x4 * (1103515245 : Int32)) + (12345 : Int32)) (16 : Int32)) - (ruushr ((x4 * (1103515245 : Int32)) + (12345 : Int32)) (16 : Int32)) / (5 : Int32) * (5 : Int32)) A hv) rfl (Nat.le_trans (m := 4) (by decide) hd) (Nat.le_of_ble_eq_true rfl) ?_
            clear hv
            refine ru_pop ddX10_answerAll_129 rfl ?_
            refine ru_wk (L2 := [some (rurf E 0), some (.int x1), some (.int x2), none, some (.int ((x4 * (1103515245 : Int32)) + (12345 : Int32))), some (.int x5), none]) ⟨rfl, rfl, rfl, rfl, rfl, trivial⟩ ?_
            obtain ⟨rfl, rfl⟩ := ruS2 h
            exact J
        · rw [if_neg hc] at h
          refine ru_aload_n ddX10_answerAll_69 rfl ?_
          refine ru_iload_n ddX10_answerAll_70 rfl ?_
          refine ru_iload ddX10_answerAll_71 rfl ?_
          refine ru_iconst (1 : Int32) ddX10_answerAll_73 rfl ?_
          refine ru_aload_n ddX10_answerAll_74 rfl ?_
          refine ru_getR (r := 2) ddX10_answerAll_75 flX10_27 rfl rfl ?_
          refine ru_getR (r := 3) ddX10_answerAll_78 flX10_86 rfl rfl ?_
          refine ru_iload ddX10_answerAll_81 rfl ?_
          obtain ⟨v9, hv, h⟩ := ruB_inv h
          refine ru_iald ddX10_answerAll_83 rfl hv ?_
          clear hv
          obtain ⟨v10, A11, hv, h⟩ := ruB2_inv h
          refine ru_callVi (as := [.int x2, .int x5, .int (1 : Int32), .int v9]) (st := []) ddX10_answerAll_84 cvX10_180 rfl (wX10_marks 3 (Nat.le_refl _) x2 x5 (1 : Int32) v9 A hv) rfl (Nat.le_trans (m := 4) (by decide) hd) (Nat.le_of_ble_eq_true rfl) ?_
          clear hv
          refine ru_pop ddX10_answerAll_87 rfl ?_
          refine ru_goto 130 ddX10_answerAll_88 (by decide) ?_
          refine ru_wk (L2 := [some (rurf E 0), some (.int x1), some (.int x2), none, some (.int x4), some (.int x5), none]) ⟨rfl, rfl, rfl, rfl, rfl, trivial⟩ ?_
          obtain ⟨rfl, rfl⟩ := ruS2 h
          exact J
      · rw [if_neg hc] at h
        refine ru_aload_n ddX10_answerAll_30 rfl ?_
        refine ru_iload_n ddX10_answerAll_31 rfl ?_
        refine ru_iload ddX10_answerAll_32 rfl ?_
        refine ru_iconst (2 : Int32) ddX10_answerAll_34 rfl ?_
        refine ru_aload_n ddX10_answerAll_35 rfl ?_
        refine ru_getR (r := 2) ddX10_answerAll_36 flX10_27 rfl rfl ?_
        refine ru_getR (r := 3) ddX10_answerAll_39 flX10_86 rfl rfl ?_
        refine ru_iload ddX10_answerAll_42 rfl ?_
        obtain ⟨v12, hv, h⟩ := ruB_inv h
        refine ru_iald ddX10_answerAll_44 rfl hv ?_
        clear hv
        obtain ⟨v13, A14, hv, h⟩ := ruB2_inv h
        refine ru_callVi (as := [.int x2, .int x5, .int (2 : Int32), .int v12]) (st := []) ddX10_answerAll_45 cvX10_180 rfl (wX10_marks 3 (Nat.le_refl _) x2 x5 (2 : Int32) v12 A hv) rfl (Nat.le_trans (m := 4) (by decide) hd) (Nat.le_of_ble_eq_true rfl) ?_
        clear hv
        refine ru_pop ddX10_answerAll_48 rfl ?_
        refine ru_goto 130 ddX10_answerAll_49 (by decide) ?_
        refine ru_wk (L2 := [some (rurf E 0), some (.int x1), some (.int x2), none, some (.int x4), some (.int x5), none]) ⟨rfl, rfl, rfl, rfl, rfl, trivial⟩ ?_
        obtain ⟨rfl, rfl⟩ := ruS2 h
        exact J
theorem wX10_answerAll {E : ruE} (d : Nat) (hd : 4 ≤ d) (x1 : Int32) (x2 : Int32) (x3 : Int32) (A : ruA) {B : ruA} (h : fX10_answerAll x1 x2 x3 A = some B) : ruC E mmX10_answerAll d [rurf E 0, .int x1, .int x2, .int x3] A (ruPv B) := by
  refine ruC.of (L := [some (rurf E 0), some (.int x1), some (.int x2), some (.int x3), none, none, none]) (by decide) rfl (Nat.le_of_ble_eq_true rfl) rfl ?_
  unfold fX10_answerAll at h
  refine ru_iload_n ddX10_answerAll_0 rfl ?_
  refine ru_istore ddX10_answerAll_1 (by decide) rfl rfl ?_
  refine ru_iconst (0 : Int32) ddX10_answerAll_3 rfl ?_
  refine ru_istore ddX10_answerAll_4 (by decide) rfl rfl ?_
  refine ru_wk (L2 := [some (rurf E 0), some (.int x1), some (.int x2), none, some (.int x3), some (.int (0 : Int32)), none]) ⟨rfl, rfl, rfl, rfl, rfl, trivial⟩ ?_
  exact wX10_answerAll_l6 hd x1 x2 (fun A15 h => by
        exact ru_vretW ddX10_answerAll_136 rfl h) ruF x3 (0 : Int32) A h
theorem wX6_choiceAt {E : ruE} (d : Nat) (hd : 1 ≤ d) (x1 : Int32) (x2 : Int32) (A : ruA) {r : Int32} (h : fX6_choiceAt x1 x2 A = some r) : ruC E mmX6_choiceAt d [rurf E 9, .int x1, .int x2] A (ruPr r A) := by
  refine ruC.of (L := [some (rurf E 9), some (.int x1), some (.int x2)]) (by decide) rfl (Nat.le_of_ble_eq_true rfl) rfl ?_
  unfold fX6_choiceAt at h
  refine ru_aload_n ddX6_choiceAt_0 rfl ?_
  refine ru_getR (r := 11) ddX6_choiceAt_1 flX6_15 rfl rfl ?_
  refine ru_iload_n ddX6_choiceAt_4 rfl ?_
  refine ru_bipush (12 : Int32) ddX6_choiceAt_5 rfl ?_
  refine ru_imul ddX6_choiceAt_7 ?_
  refine ru_iload_n ddX6_choiceAt_8 rfl ?_
  refine ru_iadd ddX6_choiceAt_9 ?_
  obtain ⟨v1, hv, h⟩ := ruB_inv h
  refine ru_iald ddX6_choiceAt_10 rfl hv ?_
  clear hv
  exact ru_iretP ddX6_choiceAt_11 rfl h
theorem wX6_rights_l5 {E : ruE} {d : Nat} (hd : 2 ≤ d) {β : Type} {Q : Option Value → ruA → Prop} {res : β} (x1 : Int32) (A : ruA) {k35 : Int32 → Option (β)} (hk35 : ∀ (x3 : Int32), k35 x3 = some res → ruW E mmX6_rights d Q 35 [none, none, none, some (.int x3), none] [] A) : ∀ (n : Nat) (x3 : Int32) (x4 : Int32), fX6_rights_l5 x1 A k35 n x3 x4 = some res → ruW E mmX6_rights d Q 5 [some (rurf E 9), some (.int x1), some (rurf E 3), some (.int x3), some (.int x4)] [] A := by
  intro n
  induction n with
  | zero =>
    intro x3 x4 h
    exact absurd h (by rw [fX6_rights_l5]; exact fun h => nomatch h)
  | succ n ih =>
    intro x3 x4 h
    rw [fX6_rights_l5] at h
    refine ru_iload ddX6_rights_5 rfl ?_
    refine ru_bipush (12 : Int32) ddX6_rights_7 rfl ?_
    refine ru_icmp_ge 35 ddX6_rights_9 (by decide) (fun hc => ?_) (fun hc => ?_)
    · rw [if_pos hc] at h
      refine ru_wk (L2 := [none, none, none, some (.int x3), none]) ⟨rfl, trivial⟩ ?_
      exact hk35 x3 h
    · rw [if_neg hc] at h
      refine ru_aload_n ddX6_rights_12 rfl ?_
      refine ru_iload_n ddX6_rights_13 rfl ?_
      refine ru_iload ddX6_rights_14 rfl ?_
      obtain ⟨v1, hv, h⟩ := ruB_inv h
      refine ru_callVi (as := [.int x1, .int x4]) (st := []) ddX6_rights_16 cvX6_41 rfl (wX6_choiceAt 1 (Nat.le_refl _) x1 x4 A hv) rfl (Nat.le_trans (m := 2) (by decide) hd) (Nat.le_of_ble_eq_true rfl) ?_
      clear hv
      refine ru_aload_n ddX6_rights_19 rfl ?_
      refine ru_iload ddX6_rights_20 rfl ?_
      obtain ⟨v2, hv, h⟩ := ruB_inv h
      refine ru_iald ddX6_rights_22 rfl hv ?_
      clear hv
      obtain ⟨v3, hq, h⟩ := ruB_inv h
      have J : ruW E mmX6_rights d Q 29 [some (rurf E 9), some (.int x1), some (rurf E 3), some (.int v3), some (.int x4)] [] A := by
          refine ru_iinc (x4 + (1 : Int32)) ddX6_rights_29 (by decide) rfl rfl rfl rfl ?_
          refine ru_goto 5 ddX6_rights_32 (by decide) ?_
          exact ih v3 (x4 + (1 : Int32)) h
      replace h := hq
      clear hq
      refine ru_icmp_ne 29 ddX6_rights_23 (by decide) (fun hc => ?_) (fun hc => ?_)
      · rw [if_neg hc] at h
        refine ru_wk (L2 := [some (rurf E 9), some (.int x1), some (rurf E 3), some (.int x3), some (.int x4)]) ⟨rfl, rfl, rfl, rfl, rfl, trivial⟩ ?_
        obtain rfl := ruS1 h
        exact J
      · rw [if_pos hc] at h
        refine ru_iinc (x3 + (1 : Int32)) ddX6_rights_26 (by decide) rfl rfl rfl rfl ?_
        refine ru_wk (L2 := [some (rurf E 9), some (.int x1), some (rurf E 3), some (.int (x3 + (1 : Int32))), some (.int x4)]) ⟨rfl, rfl, rfl, rfl, rfl, trivial⟩ ?_
        obtain rfl := ruS1 h
        exact J
theorem wX6_rights {E : ruE} (d : Nat) (hd : 2 ≤ d) (x1 : Int32) (A : ruA) {r : Int32} (h : fX6_rights x1 A = some r) : ruC E mmX6_rights d [rurf E 9, .int x1, rurf E 3] A (ruPr r A) := by
  refine ruC.of (L := [some (rurf E 9), some (.int x1), some (rurf E 3), none, none]) (by decide) rfl (Nat.le_of_ble_eq_true rfl) rfl ?_
  unfold fX6_rights at h
  refine ru_iconst (0 : Int32) ddX6_rights_0 rfl ?_
  refine ru_istore_n ddX6_rights_1 (by decide) rfl rfl ?_
  refine ru_iconst (0 : Int32) ddX6_rights_2 rfl ?_
  refine ru_istore ddX6_rights_3 (by decide) rfl rfl ?_
  exact wX6_rights_l5 hd x1 A (fun v4 h => by
        refine ru_iload_n ddX6_rights_35 rfl ?_
        exact ru_iretP ddX6_rights_36 rfl h) ruF (0 : Int32) (0 : Int32) h
theorem wX10_sit {E : ruE} (d : Nat) (hd : 5 ≤ d) (x1 : Int32) (x2 : Int32) (A : ruA) {r : Int32} {B : ruA} (h : fX10_sit x1 x2 A = some (r, B)) : ruC E mmX10_sit d [rurf E 0, .int x1, .int x2] A (ruPr r B) := by
  refine ruC.of (L := [some (rurf E 0), some (.int x1), some (.int x2), none]) (by decide) rfl (Nat.le_of_ble_eq_true rfl) rfl ?_
  unfold fX10_sit at h
  refine ru_aload_n ddX10_sit_0 rfl ?_
  refine ru_iload_n ddX10_sit_1 rfl ?_
  obtain ⟨v1, hv, h⟩ := ruB_inv h
  refine ru_callVi (as := [.int x1]) (st := []) ddX10_sit_2 cvX10_113 rfl (wX10_isChild 2 (Nat.le_refl _) x1 A hv) rfl (Nat.le_trans (m := 5) (by decide) hd) (Nat.le_of_ble_eq_true rfl) ?_
  clear hv
  refine ru_if_ne 15 ddX10_sit_5 (by decide) (fun hc => ?_) (fun hc => ?_)
  · rw [if_neg hc] at h
    refine ru_aload_n ddX10_sit_15 rfl ?_
    refine ru_iload_n ddX10_sit_16 rfl ?_
    obtain ⟨v2, hv, h⟩ := ruB_inv h
    refine ru_callVi (as := [.int x1]) (st := []) ddX10_sit_17 cvX10_143 rfl (wX10_openSheet 2 (Nat.le_refl _) x1 A hv) rfl (Nat.le_trans (m := 5) (by decide) hd) (Nat.le_of_ble_eq_true rfl) ?_
    clear hv
    refine ru_istore_n ddX10_sit_20 (by decide) rfl rfl ?_
    refine ru_aload_n ddX10_sit_21 rfl ?_
    refine ru_getR (r := 9) ddX10_sit_22 flX10_32 rfl rfl ?_
    refine ru_getR (r := 10) ddX10_sit_25 flX10_146 rfl rfl ?_
    refine ru_iload_n ddX10_sit_28 rfl ?_
    obtain ⟨v3, hv, h⟩ := ruB_inv h
    refine ru_zald ddX10_sit_29 rfl hv ?_
    clear hv
    refine ru_if_eq 40 ddX10_sit_30 (by decide) (fun hc => ?_) (fun hc => ?_)
    · rw [if_pos hc] at h
      refine ru_aload_n ddX10_sit_40 rfl ?_
      refine ru_getR (r := 9) ddX10_sit_41 flX10_32 rfl rfl ?_
      refine ru_iload_n ddX10_sit_44 rfl ?_
      obtain ⟨A4, hv, h⟩ := ruB_inv h
      refine ru_callVv (as := [.int v2]) (st := []) ddX10_sit_45 cvX10_150 rfl (wX6_begin 3 (Nat.le_refl _) v2 A hv) rfl (Nat.le_trans (m := 5) (by decide) hd) (Nat.le_of_ble_eq_true rfl) ?_
      clear hv
      refine ru_aload_n ddX10_sit_48 rfl ?_
      refine ru_iload_n ddX10_sit_49 rfl ?_
      refine ru_iload_n ddX10_sit_50 rfl ?_
      refine ru_iload_n ddX10_sit_51 rfl ?_
      obtain ⟨A5, hv, h⟩ := ruB_inv h
      refine ru_callVv (as := [.int x1, .int v2, .int x2]) (st := []) ddX10_sit_52 cvX10_154 rfl (wX10_answerAll 4 (Nat.le_refl _) x1 v2 x2 A4 hv) rfl (Nat.le_trans (m := 5) (by decide) hd) (Nat.le_of_ble_eq_true rfl) ?_
      clear hv
      refine ru_aload_n ddX10_sit_55 rfl ?_
      refine ru_getR (r := 9) ddX10_sit_56 flX10_32 rfl rfl ?_
      refine ru_iload_n ddX10_sit_59 rfl ?_
      refine ru_aload_n ddX10_sit_60 rfl ?_
      refine ru_getR (r := 2) ddX10_sit_61 flX10_27 rfl rfl ?_
      refine ru_getR (r := 3) ddX10_sit_64 flX10_86 rfl rfl ?_
      obtain ⟨v6, hv, h⟩ := ruB_inv h
      refine ru_callVi (as := [.int v2, rurf E 3]) (st := []) ddX10_sit_67 cvX10_158 rfl (wX6_rights 2 (Nat.le_refl _) v2 A5 hv) rfl (Nat.le_trans (m := 5) (by decide) hd) (Nat.le_of_ble_eq_true rfl) ?_
      clear hv
      exact ru_iretW ddX10_sit_70 rfl h
    · rw [if_neg hc] at h
      refine ru_aload_n ddX10_sit_33 rfl ?_
      refine ru_ldc (v := (-1000005 : Int32)) ddX10_sit_34 ckX10_105 ?_
      obtain ⟨v7, A8, hv, h⟩ := ruB2_inv h
      refine ru_callVi (as := [.int (-1000005 : Int32)]) (st := []) ddX10_sit_36 cvX10_82 rfl (wX10_finding 2 (Nat.le_refl _) (-1000005 : Int32) A hv) rfl (Nat.le_trans (m := 5) (by decide) hd) (Nat.le_of_ble_eq_true rfl) ?_
      clear hv
      exact ru_iretW ddX10_sit_39 rfl h
  · rw [if_pos hc] at h
    refine ru_aload_n ddX10_sit_8 rfl ?_
    refine ru_ldc (v := (-1000001 : Int32)) ddX10_sit_9 ckX10_81 ?_
    obtain ⟨v9, A10, hv, h⟩ := ruB2_inv h
    refine ru_callVi (as := [.int (-1000001 : Int32)]) (st := []) ddX10_sit_11 cvX10_82 rfl (wX10_finding 2 (Nat.le_refl _) (-1000001 : Int32) A hv) rfl (Nat.le_trans (m := 5) (by decide) hd) (Nat.le_of_ble_eq_true rfl) ?_
    clear hv
    exact ru_iretW ddX10_sit_14 rfl h
theorem wX10_isSlip {E : ruE} (d : Nat) (hd : 2 ≤ d) (x0 : Int32) (A : ruA) {r : Int32} (h : fX10_isSlip x0 = some r) : ruC E mmX10_isSlip d [.int x0] A (ruPr r A) := by
  refine ruC.of (L := [some (.int x0)]) (by decide) rfl (Nat.le_of_ble_eq_true rfl) rfl ?_
  unfold fX10_isSlip at h
  refine ru_iload_n ddX10_isSlip_0 rfl ?_
  refine ru_iconst (0 : Int32) ddX10_isSlip_1 rfl ?_
  refine ru_iconst (3 : Int32) ddX10_isSlip_2 rfl ?_
  obtain ⟨v1, hv, h⟩ := ruB_inv h
  refine ru_callSi (as := [.int x0, .int (0 : Int32), .int (3 : Int32)]) (st := []) ddX10_isSlip_3 csX10_77 (wX10_isWithin 1 (Nat.le_refl _) x0 (0 : Int32) (3 : Int32) A hv) rfl (Nat.le_trans (m := 2) (by decide) hd) (Nat.le_of_ble_eq_true rfl) ?_
  clear hv
  obtain ⟨_, hz, h⟩ := ruB_inv h
  exact ru_zretP ddX10_isSlip_6 rfl (rubz_eq hz) h
theorem wX7_isMissing {E : ruE} (d : Nat) (hd : 1 ≤ d) (x0 : Nat) (A : ruA) {r : Int32} (h : fX7_isMissing x0 A = some r) : ruC E mmX7_isMissing d [rurf E x0] A (ruPr r A) := by
  refine ruC.of (L := [some (rurf E x0)]) (by decide) rfl (Nat.le_of_ble_eq_true rfl) rfl ?_
  unfold fX7_isMissing at h
  refine ru_aload_n ddX7_isMissing_0 rfl ?_
  obtain ⟨_, ho1, h⟩ := ruB_inv h
  refine ru_getI ddX7_isMissing_1 flX7_15 (rudO_eq ho1) ?_
  refine ru_if_ne 11 ddX7_isMissing_4 (by decide) (fun hc => ?_) (fun hc => ?_)
  · rw [if_neg hc] at h
    refine ru_iconst (0 : Int32) ddX7_isMissing_11 rfl ?_
    exact ru_zretP ddX7_isMissing_12 rfl (Or.inl rfl) h
  · rw [if_pos hc] at h
    refine ru_iconst (1 : Int32) ddX7_isMissing_7 rfl ?_
    refine ru_goto 12 ddX7_isMissing_8 (by decide) ?_
    exact ru_zretP ddX7_isMissing_12 rfl (Or.inr rfl) h
theorem wX7_areWithin_l2 {E : ruE} {d : Nat} (hd : 2 ≤ d) {β : Type} {Q : Option Value → ruA → Prop} {res : β} (x0 : Nat) (x1 : Int32) (x2 : Int32) (A : ruA) {k24 : Option (β)} {k32 : Option (β)} (hk24 : k24 = some res → ruW E mmX7_areWithin d Q 24 [none, none, none, none] [] A) (hk32 : k32 = some res → ruW E mmX7_areWithin d Q 32 [none, none, none, none] [] A) : ∀ (n : Nat) (x3 : Int32), fX7_areWithin_l2 x0 x1 x2 A k24 k32 n x3 = some res → ruW E mmX7_areWithin d Q 2 [some (rurf E x0), some (.int x1), some (.int x2), some (.int x3)] [] A := by
  intro n
  induction n with
  | zero =>
    intro x3 h
    exact absurd h (by rw [fX7_areWithin_l2]; exact fun h => nomatch h)
  | succ n ih =>
    intro x3 h
    rw [fX7_areWithin_l2] at h
    refine ru_iload_n ddX7_areWithin_2 rfl ?_
    refine ru_aload_n ddX7_areWithin_3 rfl ?_
    obtain ⟨_, ho1, h⟩ := ruB_inv h
    refine ru_getI ddX7_areWithin_4 flX7_19 (rudO_eq ho1) ?_
    refine ru_icmp_ge 32 ddX7_areWithin_7 (by decide) (fun hc => ?_) (fun hc => ?_)
    · rw [if_pos hc] at h
      refine ru_wk (L2 := [none, none, none, none]) trivial ?_
      exact hk32 h
    · rw [if_neg hc] at h
      refine ru_aload_n ddX7_areWithin_10 rfl ?_
      obtain ⟨c2, hv, h⟩ := ruB_inv h
      refine ru_getR ddX7_areWithin_11 flX7_9 (rudO_eq ho1) hv ?_
      clear hv
      refine ru_iload_n ddX7_areWithin_14 rfl ?_
      obtain ⟨n4, hn4, h⟩ := ruB_inv h
      obtain ⟨v3, hv, h⟩ := ruB_inv h
      refine ru_iald ddX7_areWithin_15 (rudI_eq hn4) hv ?_
      clear hv
      refine ru_iload_n ddX7_areWithin_16 rfl ?_
      refine ru_iload_n ddX7_areWithin_17 rfl ?_
      obtain ⟨v5, hv, h⟩ := ruB_inv h
      refine ru_callNi (as := [.int v3, .int x1, .int x2]) (st := []) ddX7_areWithin_18 cnX7_28 (wX10_isWithin 1 (Nat.le_refl _) v3 x1 x2 A hv) rfl (Nat.le_trans (m := 2) (by decide) hd) (Nat.le_of_ble_eq_true rfl) ?_
      clear hv
      refine ru_if_ne 26 ddX7_areWithin_21 (by decide) (fun hc => ?_) (fun hc => ?_)
      · rw [if_neg hc] at h
        refine ru_iinc (x3 + (1 : Int32)) ddX7_areWithin_26 (by decide) rfl rfl rfl rfl ?_
        refine ru_goto 2 ddX7_areWithin_29 (by decide) ?_
        exact ih (x3 + (1 : Int32)) h
      · rw [if_pos hc] at h
        refine ru_wk (L2 := [none, none, none, none]) trivial ?_
        exact hk24 h
theorem wX7_areWithin {E : ruE} (d : Nat) (hd : 2 ≤ d) (x0 : Nat) (x1 : Int32) (x2 : Int32) (A : ruA) {r : Int32} (h : fX7_areWithin x0 x1 x2 A = some r) : ruC E mmX7_areWithin d [rurf E x0, .int x1, .int x2] A (ruPr r A) := by
  refine ruC.of (L := [some (rurf E x0), some (.int x1), some (.int x2), none]) (by decide) rfl (Nat.le_of_ble_eq_true rfl) rfl ?_
  unfold fX7_areWithin at h
  refine ru_iconst (0 : Int32) ddX7_areWithin_0 rfl ?_
  refine ru_istore_n ddX7_areWithin_1 (by decide) rfl rfl ?_
  exact wX7_areWithin_l2 hd x0 x1 x2 A (fun h => by
        refine ru_iconst (0 : Int32) ddX7_areWithin_24 rfl ?_
        exact ru_zretP ddX7_areWithin_25 rfl (Or.inl rfl) h) (fun h => by
        refine ru_iconst (1 : Int32) ddX7_areWithin_32 rfl ?_
        exact ru_zretP ddX7_areWithin_33 rfl (Or.inr rfl) h) ruF (0 : Int32) h
theorem wX10_read_l114 {E : ruE} {d : Nat} (hd : 4 ≤ d) {β : Type} {Q : Option Value → ruA → Prop} {res : β} (x3 : Nat) (x4 : Int32) {k144 : ruA → Option (β)} (hk144 : ∀ (A : ruA), k144 A = some res → ruW E mmX10_read d Q 144 [some (rurf E 0), none, none, none, some (.int x4), none] [] A) : ∀ (n : Nat) (x5 : Int32) (A : ruA), fX10_read_l114 x3 x4 k144 n x5 A = some res → ruW E mmX10_read d Q 114 [some (rurf E 0), none, none, some (rurf E x3), some (.int x4), some (.int x5)] [] A := by
  intro n
  induction n with
  | zero =>
    intro x5 A h
    exact absurd h (by rw [fX10_read_l114]; exact fun h => nomatch h)
  | succ n ih =>
    intro x5 A h
    rw [fX10_read_l114] at h
    refine ru_iload ddX10_read_114 rfl ?_
    refine ru_bipush (12 : Int32) ddX10_read_116 rfl ?_
    refine ru_icmp_ge 144 ddX10_read_118 (by decide) (fun hc => ?_) (fun hc => ?_)
    · rw [if_pos hc] at h
      refine ru_wk (L2 := [some (rurf E 0), none, none, none, some (.int x4), none]) ⟨rfl, rfl, trivial⟩ ?_
      exact hk144 A h
    · rw [if_neg hc] at h
      refine ru_aload_n ddX10_read_121 rfl ?_
      refine ru_iload ddX10_read_122 rfl ?_
      refine ru_iload ddX10_read_124 rfl ?_
      refine ru_iconst (0 : Int32) ddX10_read_126 rfl ?_
      refine ru_aload_n ddX10_read_127 rfl ?_
      obtain ⟨_, ho12, h⟩ := ruB_inv h
      obtain ⟨c13, hv, h⟩ := ruB_inv h
      refine ru_getR ddX10_read_128 flX10_177 (rudO_eq ho12) hv ?_
      clear hv
      refine ru_iload ddX10_read_131 rfl ?_
      obtain ⟨n15, hn15, h⟩ := ruB_inv h
      obtain ⟨v14, hv, h⟩ := ruB_inv h
      refine ru_iald ddX10_read_133 (rudI_eq hn15) hv ?_
      clear hv
      obtain ⟨v16, A17, hv, h⟩ := ruB2_inv h
      refine ru_callVi (as := [.int x4, .int x5, .int (0 : Int32), .int v14]) (st := []) ddX10_read_134 cvX10_180 rfl (wX10_marks 3 (Nat.le_refl _) x4 x5 (0 : Int32) v14 A hv) rfl (Nat.le_trans (m := 4) (by decide) hd) (Nat.le_of_ble_eq_true rfl) ?_
      clear hv
      refine ru_pop ddX10_read_137 rfl ?_
      refine ru_iinc (x5 + (1 : Int32)) ddX10_read_138 (by decide) rfl rfl rfl rfl ?_
      refine ru_goto 114 ddX10_read_141 (by decide) ?_
      exact ih (x5 + (1 : Int32)) A17 h
theorem wX10_read {E : ruE} (d : Nat) (hd : 4 ≤ d) (x1 : Int32) (x2 : Int32) (A : ruA) {r : Int32} {B : ruA} (h : fX10_read x1 x2 A = some (r, B)) : ruC E mmX10_read d [rurf E 0, .int x1, .int x2] A (ruPr r B) := by
  refine ruC.of (L := [some (rurf E 0), some (.int x1), some (.int x2), none, none, none]) (by decide) rfl (Nat.le_of_ble_eq_true rfl) rfl ?_
  unfold fX10_read at h
  refine ru_aload_n ddX10_read_0 rfl ?_
  refine ru_iload_n ddX10_read_1 rfl ?_
  obtain ⟨v1, hv, h⟩ := ruB_inv h
  refine ru_callVi (as := [.int x1]) (st := []) ddX10_read_2 cvX10_113 rfl (wX10_isChild 2 (Nat.le_refl _) x1 A hv) rfl (Nat.le_trans (m := 4) (by decide) hd) (Nat.le_of_ble_eq_true rfl) ?_
  clear hv
  refine ru_if_eq 15 ddX10_read_5 (by decide) (fun hc => ?_) (fun hc => ?_)
  · rw [if_pos hc] at h
    refine ru_aload_n ddX10_read_15 rfl ?_
    refine ru_ldc (v := (-1000001 : Int32)) ddX10_read_16 ckX10_81 ?_
    obtain ⟨v2, A3, hv, h⟩ := ruB2_inv h
    refine ru_callVi (as := [.int (-1000001 : Int32)]) (st := []) ddX10_read_18 cvX10_82 rfl (wX10_finding 2 (Nat.le_refl _) (-1000001 : Int32) A hv) rfl (Nat.le_trans (m := 4) (by decide) hd) (Nat.le_of_ble_eq_true rfl) ?_
    clear hv
    exact ru_iretW ddX10_read_21 rfl h
  · rw [if_neg hc] at h
    refine ru_iload_n ddX10_read_8 rfl ?_
    obtain ⟨v4, hv, h⟩ := ruB_inv h
    refine ru_callSi (as := [.int x2]) (st := []) ddX10_read_9 csX10_162 (wX10_isSlip 2 (Nat.le_refl _) x2 A hv) rfl (Nat.le_trans (m := 4) (by decide) hd) (Nat.le_of_ble_eq_true rfl) ?_
    clear hv
    refine ru_if_ne 22 ddX10_read_12 (by decide) (fun hc => ?_) (fun hc => ?_)
    · rw [if_neg hc] at h
      refine ru_aload_n ddX10_read_22 rfl ?_
      refine ru_getR (r := 73) ddX10_read_23 flX10_62 rfl rfl ?_
      refine ru_iload_n ddX10_read_26 rfl ?_
      obtain ⟨c5, hv, h⟩ := ruB_inv h
      refine ru_aald3 ddX10_read_27 rfl hv ?_
      clear hv
      refine ru_astore_n ddX10_read_28 (by decide) rfl rfl ?_
      refine ru_aload_n ddX10_read_29 rfl ?_
      obtain ⟨_, ho6, h⟩ := ruB_inv h
      obtain ⟨v7, hv, h⟩ := ruB_inv h
      refine ru_callVi (as := []) (st := []) ddX10_read_30 cvX10_165 (rudO_eq ho6) (wX7_isMissing 1 (Nat.le_refl _) c5 A hv) rfl (Nat.le_trans (m := 4) (by decide) hd) (Nat.le_of_ble_eq_true rfl) ?_
      clear hv
      refine ru_if_eq 43 ddX10_read_33 (by decide) (fun hc => ?_) (fun hc => ?_)
      · rw [if_pos hc] at h
        refine ru_aload_n ddX10_read_43 rfl ?_
        refine ru_getI ddX10_read_44 flX10_170 (rudO_eq ho6) ?_
        refine ru_bipush (12 : Int32) ddX10_read_47 rfl ?_
        refine ru_icmp_eq 59 ddX10_read_49 (by decide) (fun hc => ?_) (fun hc => ?_)
        · rw [if_pos hc] at h
          refine ru_aload_n ddX10_read_59 rfl ?_
          refine ru_iconst (-1 : Int32) ddX10_read_60 rfl ?_
          refine ru_iconst (3 : Int32) ddX10_read_61 rfl ?_
          obtain ⟨v8, hv, h⟩ := ruB_inv h
          refine ru_callVi (as := [.int (-1 : Int32), .int (3 : Int32)]) (st := []) ddX10_read_62 cvX10_174 (rudO_eq ho6) (wX7_areWithin 2 (Nat.le_refl _) c5 (-1 : Int32) (3 : Int32) A hv) rfl (Nat.le_trans (m := 4) (by decide) hd) (Nat.le_of_ble_eq_true rfl) ?_
          clear hv
          refine ru_if_ne 75 ddX10_read_65 (by decide) (fun hc => ?_) (fun hc => ?_)
          · rw [if_neg hc] at h
            refine ru_aload_n ddX10_read_75 rfl ?_
            refine ru_iload_n ddX10_read_76 rfl ?_
            obtain ⟨v9, hv, h⟩ := ruB_inv h
            refine ru_callVi (as := [.int x1]) (st := []) ddX10_read_77 cvX10_143 rfl (wX10_openSheet 2 (Nat.le_refl _) x1 A hv) rfl (Nat.le_trans (m := 4) (by decide) hd) (Nat.le_of_ble_eq_true rfl) ?_
            clear hv
            refine ru_istore ddX10_read_80 (by decide) rfl rfl ?_
            refine ru_aload_n ddX10_read_82 rfl ?_
            refine ru_getR (r := 9) ddX10_read_83 flX10_32 rfl rfl ?_
            refine ru_getR (r := 10) ddX10_read_86 flX10_146 rfl rfl ?_
            refine ru_iload ddX10_read_89 rfl ?_
            obtain ⟨v10, hv, h⟩ := ruB_inv h
            refine ru_zald ddX10_read_91 rfl hv ?_
            clear hv
            refine ru_if_eq 102 ddX10_read_92 (by decide) (fun hc => ?_) (fun hc => ?_)
            · rw [if_pos hc] at h
              refine ru_aload_n ddX10_read_102 rfl ?_
              refine ru_getR (r := 9) ddX10_read_103 flX10_32 rfl rfl ?_
              refine ru_iload ddX10_read_106 rfl ?_
              obtain ⟨A11, hv, h⟩ := ruB_inv h
              refine ru_callVv (as := [.int v9]) (st := []) ddX10_read_108 cvX10_150 rfl (wX6_begin 3 (Nat.le_refl _) v9 A hv) rfl (Nat.le_trans (m := 4) (by decide) hd) (Nat.le_of_ble_eq_true rfl) ?_
              clear hv
              refine ru_iconst (0 : Int32) ddX10_read_111 rfl ?_
              refine ru_istore ddX10_read_112 (by decide) rfl rfl ?_
              refine ru_wk (L2 := [some (rurf E 0), none, none, some (rurf E c5), some (.int v9), some (.int (0 : Int32))]) ⟨rfl, rfl, rfl, rfl, trivial⟩ ?_
              exact wX10_read_l114 hd c5 v9 (fun A18 h => by
                    refine ru_aload_n ddX10_read_144 rfl ?_
                    refine ru_getR (r := 9) ddX10_read_145 flX10_32 rfl rfl ?_
                    refine ru_iload ddX10_read_148 rfl ?_
                    refine ru_aload_n ddX10_read_150 rfl ?_
                    refine ru_getR (r := 2) ddX10_read_151 flX10_27 rfl rfl ?_
                    refine ru_getR (r := 3) ddX10_read_154 flX10_86 rfl rfl ?_
                    obtain ⟨v19, hv, h⟩ := ruB_inv h
                    refine ru_callVi (as := [.int v9, rurf E 3]) (st := []) ddX10_read_157 cvX10_158 rfl (wX6_rights 2 (Nat.le_refl _) v9 A18 hv) rfl (Nat.le_trans (m := 4) (by decide) hd) (Nat.le_of_ble_eq_true rfl) ?_
                    clear hv
                    exact ru_iretW ddX10_read_160 rfl h) ruF (0 : Int32) A11 h
            · rw [if_neg hc] at h
              refine ru_aload_n ddX10_read_95 rfl ?_
              refine ru_ldc (v := (-1000005 : Int32)) ddX10_read_96 ckX10_105 ?_
              obtain ⟨v20, A21, hv, h⟩ := ruB2_inv h
              refine ru_callVi (as := [.int (-1000005 : Int32)]) (st := []) ddX10_read_98 cvX10_82 rfl (wX10_finding 2 (Nat.le_refl _) (-1000005 : Int32) A hv) rfl (Nat.le_trans (m := 4) (by decide) hd) (Nat.le_of_ble_eq_true rfl) ?_
              clear hv
              exact ru_iretW ddX10_read_101 rfl h
          · rw [if_pos hc] at h
            refine ru_aload_n ddX10_read_68 rfl ?_
            refine ru_ldc (v := (-1000001 : Int32)) ddX10_read_69 ckX10_81 ?_
            obtain ⟨v22, A23, hv, h⟩ := ruB2_inv h
            refine ru_callVi (as := [.int (-1000001 : Int32)]) (st := []) ddX10_read_71 cvX10_82 rfl (wX10_finding 2 (Nat.le_refl _) (-1000001 : Int32) A hv) rfl (Nat.le_trans (m := 4) (by decide) hd) (Nat.le_of_ble_eq_true rfl) ?_
            clear hv
            exact ru_iretW ddX10_read_74 rfl h
        · rw [if_neg hc] at h
          refine ru_aload_n ddX10_read_52 rfl ?_
          refine ru_ldc (v := (-1000007 : Int32)) ddX10_read_53 ckX10_173 ?_
          obtain ⟨v24, A25, hv, h⟩ := ruB2_inv h
          refine ru_callVi (as := [.int (-1000007 : Int32)]) (st := []) ddX10_read_55 cvX10_82 rfl (wX10_finding 2 (Nat.le_refl _) (-1000007 : Int32) A hv) rfl (Nat.le_trans (m := 4) (by decide) hd) (Nat.le_of_ble_eq_true rfl) ?_
          clear hv
          exact ru_iretW ddX10_read_58 rfl h
      · rw [if_neg hc] at h
        refine ru_aload_n ddX10_read_36 rfl ?_
        refine ru_ldc (v := (-1000006 : Int32)) ddX10_read_37 ckX10_169 ?_
        obtain ⟨v26, A27, hv, h⟩ := ruB2_inv h
        refine ru_callVi (as := [.int (-1000006 : Int32)]) (st := []) ddX10_read_39 cvX10_82 rfl (wX10_finding 2 (Nat.le_refl _) (-1000006 : Int32) A hv) rfl (Nat.le_trans (m := 4) (by decide) hd) (Nat.le_of_ble_eq_true rfl) ?_
        clear hv
        exact ru_iretW ddX10_read_42 rfl h
    · rw [if_pos hc] at h
      refine ru_aload_n ddX10_read_15 rfl ?_
      refine ru_ldc (v := (-1000001 : Int32)) ddX10_read_16 ckX10_81 ?_
      obtain ⟨v28, A29, hv, h⟩ := ruB2_inv h
      refine ru_callVi (as := [.int (-1000001 : Int32)]) (st := []) ddX10_read_18 cvX10_82 rfl (wX10_finding 2 (Nat.le_refl _) (-1000001 : Int32) A hv) rfl (Nat.le_trans (m := 4) (by decide) hd) (Nat.le_of_ble_eq_true rfl) ?_
      clear hv
      exact ru_iretW ddX10_read_21 rfl h
theorem wX10_isKind {E : ruE} (d : Nat) (hd : 2 ≤ d) (x0 : Int32) (A : ruA) {r : Int32} (h : fX10_isKind x0 = some r) : ruC E mmX10_isKind d [.int x0] A (ruPr r A) := by
  refine ruC.of (L := [some (.int x0)]) (by decide) rfl (Nat.le_of_ble_eq_true rfl) rfl ?_
  unfold fX10_isKind at h
  refine ru_iload_n ddX10_isKind_0 rfl ?_
  refine ru_iconst (0 : Int32) ddX10_isKind_1 rfl ?_
  refine ru_bipush (7 : Int32) ddX10_isKind_2 rfl ?_
  obtain ⟨v1, hv, h⟩ := ruB_inv h
  refine ru_callSi (as := [.int x0, .int (0 : Int32), .int (7 : Int32)]) (st := []) ddX10_isKind_4 csX10_77 (wX10_isWithin 1 (Nat.le_refl _) x0 (0 : Int32) (7 : Int32) A hv) rfl (Nat.le_trans (m := 2) (by decide) hd) (Nat.le_of_ble_eq_true rfl) ?_
  clear hv
  obtain ⟨_, hz, h⟩ := ruB_inv h
  exact ru_zretP ddX10_isKind_7 rfl (rubz_eq hz) h
theorem wX10_mark {E : ruE} (d : Nat) (hd : 4 ≤ d) (x1 : Int32) (x2 : Int32) (x3 : Int32) (x4 : Int32) (A : ruA) {r : Int32} {B : ruA} (h : fX10_mark x1 x2 x3 x4 A = some (r, B)) : ruC E mmX10_mark d [rurf E 0, .int x1, .int x2, .int x3, .int x4] A (ruPr r B) := by
  refine ruC.of (L := [some (rurf E 0), some (.int x1), some (.int x2), some (.int x3), some (.int x4), none]) (by decide) rfl (Nat.le_of_ble_eq_true rfl) rfl ?_
  unfold fX10_mark at h
  refine ru_aload_n ddX10_mark_0 rfl ?_
  refine ru_iload_n ddX10_mark_1 rfl ?_
  obtain ⟨v1, hv, h⟩ := ruB_inv h
  refine ru_callVi (as := [.int x1]) (st := []) ddX10_mark_2 cvX10_113 rfl (wX10_isChild 2 (Nat.le_refl _) x1 A hv) rfl (Nat.le_trans (m := 4) (by decide) hd) (Nat.le_of_ble_eq_true rfl) ?_
  clear hv
  refine ru_if_eq 32 ddX10_mark_5 (by decide) (fun hc => ?_) (fun hc => ?_)
  · rw [if_pos hc] at h
    refine ru_aload_n ddX10_mark_32 rfl ?_
    refine ru_ldc (v := (-1000001 : Int32)) ddX10_mark_33 ckX10_81 ?_
    obtain ⟨v2, A3, hv, h⟩ := ruB2_inv h
    refine ru_callVi (as := [.int (-1000001 : Int32)]) (st := []) ddX10_mark_35 cvX10_82 rfl (wX10_finding 2 (Nat.le_refl _) (-1000001 : Int32) A hv) rfl (Nat.le_trans (m := 4) (by decide) hd) (Nat.le_of_ble_eq_true rfl) ?_
    clear hv
    exact ru_iretW ddX10_mark_38 rfl h
  · rw [if_neg hc] at h
    refine ru_iload_n ddX10_mark_8 rfl ?_
    obtain ⟨v4, hv, h⟩ := ruB_inv h
    refine ru_callSi (as := [.int x2]) (st := []) ddX10_mark_9 csX10_73 (wX10_isQuestion 2 (Nat.le_refl _) x2 A hv) rfl (Nat.le_trans (m := 4) (by decide) hd) (Nat.le_of_ble_eq_true rfl) ?_
    clear hv
    refine ru_if_eq 32 ddX10_mark_12 (by decide) (fun hc => ?_) (fun hc => ?_)
    · rw [if_pos hc] at h
      refine ru_aload_n ddX10_mark_32 rfl ?_
      refine ru_ldc (v := (-1000001 : Int32)) ddX10_mark_33 ckX10_81 ?_
      obtain ⟨v5, A6, hv, h⟩ := ruB2_inv h
      refine ru_callVi (as := [.int (-1000001 : Int32)]) (st := []) ddX10_mark_35 cvX10_82 rfl (wX10_finding 2 (Nat.le_refl _) (-1000001 : Int32) A hv) rfl (Nat.le_trans (m := 4) (by decide) hd) (Nat.le_of_ble_eq_true rfl) ?_
      clear hv
      exact ru_iretW ddX10_mark_38 rfl h
    · rw [if_neg hc] at h
      refine ru_iload_n ddX10_mark_15 rfl ?_
      obtain ⟨v7, hv, h⟩ := ruB_inv h
      refine ru_callSi (as := [.int x3]) (st := []) ddX10_mark_16 csX10_184 (wX10_isKind 2 (Nat.le_refl _) x3 A hv) rfl (Nat.le_trans (m := 4) (by decide) hd) (Nat.le_of_ble_eq_true rfl) ?_
      clear hv
      refine ru_if_eq 32 ddX10_mark_19 (by decide) (fun hc => ?_) (fun hc => ?_)
      · rw [if_pos hc] at h
        refine ru_aload_n ddX10_mark_32 rfl ?_
        refine ru_ldc (v := (-1000001 : Int32)) ddX10_mark_33 ckX10_81 ?_
        obtain ⟨v8, A9, hv, h⟩ := ruB2_inv h
        refine ru_callVi (as := [.int (-1000001 : Int32)]) (st := []) ddX10_mark_35 cvX10_82 rfl (wX10_finding 2 (Nat.le_refl _) (-1000001 : Int32) A hv) rfl (Nat.le_trans (m := 4) (by decide) hd) (Nat.le_of_ble_eq_true rfl) ?_
        clear hv
        exact ru_iretW ddX10_mark_38 rfl h
      · rw [if_neg hc] at h
        refine ru_iload ddX10_mark_22 rfl ?_
        refine ru_iconst (-1 : Int32) ddX10_mark_24 rfl ?_
        refine ru_iconst (3 : Int32) ddX10_mark_25 rfl ?_
        obtain ⟨v10, hv, h⟩ := ruB_inv h
        refine ru_callSi (as := [.int x4, .int (-1 : Int32), .int (3 : Int32)]) (st := []) ddX10_mark_26 csX10_77 (wX10_isWithin 1 (Nat.le_refl _) x4 (-1 : Int32) (3 : Int32) A hv) rfl (Nat.le_trans (m := 4) (by decide) hd) (Nat.le_of_ble_eq_true rfl) ?_
        clear hv
        refine ru_if_ne 39 ddX10_mark_29 (by decide) (fun hc => ?_) (fun hc => ?_)
        · rw [if_neg hc] at h
          refine ru_aload_n ddX10_mark_39 rfl ?_
          refine ru_iload_n ddX10_mark_40 rfl ?_
          obtain ⟨v11, hv, h⟩ := ruB_inv h
          refine ru_callVi (as := [.int x1]) (st := []) ddX10_mark_41 cvX10_143 rfl (wX10_openSheet 2 (Nat.le_refl _) x1 A hv) rfl (Nat.le_trans (m := 4) (by decide) hd) (Nat.le_of_ble_eq_true rfl) ?_
          clear hv
          refine ru_istore ddX10_mark_44 (by decide) rfl rfl ?_
          refine ru_aload_n ddX10_mark_46 rfl ?_
          refine ru_getR (r := 9) ddX10_mark_47 flX10_32 rfl rfl ?_
          refine ru_getR (r := 10) ddX10_mark_50 flX10_146 rfl rfl ?_
          refine ru_iload ddX10_mark_53 rfl ?_
          obtain ⟨v12, hv, h⟩ := ruB_inv h
          refine ru_zald ddX10_mark_55 rfl hv ?_
          clear hv
          refine ru_if_ne 66 ddX10_mark_56 (by decide) (fun hc => ?_) (fun hc => ?_)
          · rw [if_neg hc] at h
            refine ru_aload_n ddX10_mark_66 rfl ?_
            refine ru_iload ddX10_mark_67 rfl ?_
            refine ru_iload_n ddX10_mark_69 rfl ?_
            refine ru_iload_n ddX10_mark_70 rfl ?_
            refine ru_iload ddX10_mark_71 rfl ?_
            obtain ⟨v13, A14, hv, h⟩ := ruB2_inv h
            refine ru_callVi (as := [.int v11, .int x2, .int x3, .int x4]) (st := []) ddX10_mark_73 cvX10_180 rfl (wX10_marks 3 (Nat.le_refl _) v11 x2 x3 x4 A hv) rfl (Nat.le_trans (m := 4) (by decide) hd) (Nat.le_of_ble_eq_true rfl) ?_
            clear hv
            refine ru_if_eq 83 ddX10_mark_76 (by decide) (fun hc => ?_) (fun hc => ?_)
            · rw [if_pos hc] at h
              refine ru_iconst (0 : Int32) ddX10_mark_83 rfl ?_
              exact ru_iretW ddX10_mark_84 rfl h
            · rw [if_neg hc] at h
              refine ru_iconst (1 : Int32) ddX10_mark_79 rfl ?_
              refine ru_goto 84 ddX10_mark_80 (by decide) ?_
              exact ru_iretW ddX10_mark_84 rfl h
          · rw [if_pos hc] at h
            refine ru_aload_n ddX10_mark_59 rfl ?_
            refine ru_ldc (v := (-1000005 : Int32)) ddX10_mark_60 ckX10_105 ?_
            obtain ⟨v15, A16, hv, h⟩ := ruB2_inv h
            refine ru_callVi (as := [.int (-1000005 : Int32)]) (st := []) ddX10_mark_62 cvX10_82 rfl (wX10_finding 2 (Nat.le_refl _) (-1000005 : Int32) A hv) rfl (Nat.le_trans (m := 4) (by decide) hd) (Nat.le_of_ble_eq_true rfl) ?_
            clear hv
            exact ru_iretW ddX10_mark_65 rfl h
        · rw [if_pos hc] at h
          refine ru_aload_n ddX10_mark_32 rfl ?_
          refine ru_ldc (v := (-1000001 : Int32)) ddX10_mark_33 ckX10_81 ?_
          obtain ⟨v17, A18, hv, h⟩ := ruB2_inv h
          refine ru_callVi (as := [.int (-1000001 : Int32)]) (st := []) ddX10_mark_35 cvX10_82 rfl (wX10_finding 2 (Nat.le_refl _) (-1000001 : Int32) A hv) rfl (Nat.le_trans (m := 4) (by decide) hd) (Nat.le_of_ble_eq_true rfl) ?_
          clear hv
          exact ru_iretW ddX10_mark_38 rfl h
theorem wX5_areNeighbours {E : ruE} (d : Nat) (hd : 1 ≤ d) (x1 : Int32) (x2 : Int32) (A : ruA) {r : Int32} (h : fX5_areNeighbours x1 x2 A = some r) : ruC E mmX5_areNeighbours d [rurf E 2, .int x1, .int x2] A (ruPr r A) := by
  refine ruC.of (L := [some (rurf E 2), some (.int x1), some (.int x2)]) (by decide) rfl (Nat.le_of_ble_eq_true rfl) rfl ?_
  unfold fX5_areNeighbours at h
  refine ru_aload_n ddX5_areNeighbours_0 rfl ?_
  refine ru_getR (r := 5) ddX5_areNeighbours_1 flX5_18 rfl rfl ?_
  refine ru_iload_n ddX5_areNeighbours_4 rfl ?_
  obtain ⟨v1, hv, h⟩ := ruB_inv h
  refine ru_iald ddX5_areNeighbours_5 rfl hv ?_
  clear hv
  refine ru_aload_n ddX5_areNeighbours_6 rfl ?_
  refine ru_getR (r := 5) ddX5_areNeighbours_7 flX5_18 rfl rfl ?_
  refine ru_iload_n ddX5_areNeighbours_10 rfl ?_
  obtain ⟨v2, hv, h⟩ := ruB_inv h
  refine ru_iald ddX5_areNeighbours_11 rfl hv ?_
  clear hv
  refine ru_icmp_ne 39 ddX5_areNeighbours_12 (by decide) (fun hc => ?_) (fun hc => ?_)
  · rw [if_neg hc] at h
    refine ru_iconst (0 : Int32) ddX5_areNeighbours_39 rfl ?_
    exact ru_zretP ddX5_areNeighbours_40 rfl (Or.inl rfl) h
  · rw [if_pos hc] at h
    refine ru_aload_n ddX5_areNeighbours_15 rfl ?_
    refine ru_getR (r := 6) ddX5_areNeighbours_16 flX5_21 rfl rfl ?_
    refine ru_iload_n ddX5_areNeighbours_19 rfl ?_
    obtain ⟨v3, hv, h⟩ := ruB_inv h
    refine ru_iald ddX5_areNeighbours_20 rfl hv ?_
    clear hv
    refine ru_aload_n ddX5_areNeighbours_21 rfl ?_
    refine ru_getR (r := 6) ddX5_areNeighbours_22 flX5_21 rfl rfl ?_
    refine ru_iload_n ddX5_areNeighbours_25 rfl ?_
    obtain ⟨v4, hv, h⟩ := ruB_inv h
    refine ru_iald ddX5_areNeighbours_26 rfl hv ?_
    clear hv
    refine ru_isub ddX5_areNeighbours_27 ?_
    refine ru_mabs ddX5_areNeighbours_28 abX5_50 (Nat.le_trans (m := 1) (by decide) hd) (Nat.le_of_ble_eq_true rfl) ?_
    refine ru_iconst (1 : Int32) ddX5_areNeighbours_31 rfl ?_
    refine ru_icmp_ne 39 ddX5_areNeighbours_32 (by decide) (fun hc => ?_) (fun hc => ?_)
    · rw [if_neg hc] at h
      refine ru_iconst (0 : Int32) ddX5_areNeighbours_39 rfl ?_
      exact ru_zretP ddX5_areNeighbours_40 rfl (Or.inl rfl) h
    · rw [if_pos hc] at h
      refine ru_iconst (1 : Int32) ddX5_areNeighbours_35 rfl ?_
      refine ru_goto 40 ddX5_areNeighbours_36 (by decide) ?_
      exact ru_zretP ddX5_areNeighbours_40 rfl (Or.inr rfl) h
theorem wX10_copies_l86 {E : ruE} {d : Nat} (hd : 4 ≤ d) {β : Type} {Q : Option Value → ruA → Prop} {res : β} (x3 : Int32) (x4 : Int32) {k134 : Int32 → ruA → Option (β)} (hk134 : ∀ (x5 : Int32) (A : ruA), k134 x5 A = some res → ruW E mmX10_copies d Q 134 [none, none, none, none, none, some (.int x5), none, none] [] A) : ∀ (n : Nat) (x5 : Int32) (x6 : Int32) (A : ruA), fX10_copies_l86 x3 x4 k134 n x5 x6 A = some res → ruW E mmX10_copies d Q 86 [some (rurf E 0), none, none, some (.int x3), some (.int x4), some (.int x5), some (.int x6), none] [] A := by
  intro n
  induction n with
  | zero =>
    intro x5 x6 A h
    exact absurd h (by rw [fX10_copies_l86]; exact fun h => nomatch h)
  | succ n ih =>
    intro x5 x6 A h
    rw [fX10_copies_l86] at h
    refine ru_iload ddX10_copies_86 rfl ?_
    refine ru_bipush (12 : Int32) ddX10_copies_88 rfl ?_
    refine ru_icmp_ge 134 ddX10_copies_90 (by decide) (fun hc => ?_) (fun hc => ?_)
    · rw [if_pos hc] at h
      refine ru_wk (L2 := [none, none, none, none, none, some (.int x5), none, none]) ⟨rfl, trivial⟩ ?_
      exact hk134 x5 A h
    · rw [if_neg hc] at h
      refine ru_aload_n ddX10_copies_93 rfl ?_
      refine ru_getR (r := 9) ddX10_copies_94 flX10_32 rfl rfl ?_
      refine ru_iload ddX10_copies_97 rfl ?_
      refine ru_iload ddX10_copies_99 rfl ?_
      obtain ⟨v14, hv, h⟩ := ruB_inv h
      refine ru_callVi (as := [.int x4, .int x6]) (st := []) ddX10_copies_101 cvX10_190 rfl (wX6_choiceAt 1 (Nat.le_refl _) x4 x6 A hv) rfl (Nat.le_trans (m := 4) (by decide) hd) (Nat.le_of_ble_eq_true rfl) ?_
      clear hv
      refine ru_istore ddX10_copies_104 (by decide) rfl rfl ?_
      refine ru_iload ddX10_copies_106 rfl ?_
      refine ru_iconst (-1 : Int32) ddX10_copies_108 rfl ?_
      obtain ⟨v15, A16, hq, h⟩ := ruB2_inv h
      have J : ruW E mmX10_copies d Q 128 [some (rurf E 0), none, none, some (.int x3), some (.int x4), some (.int v15), some (.int x6), none] [] A16 := by
          refine ru_iinc (x6 + (1 : Int32)) ddX10_copies_128 (by decide) rfl rfl rfl rfl ?_
          refine ru_goto 86 ddX10_copies_131 (by decide) ?_
          exact ih v15 (x6 + (1 : Int32)) A16 h
      replace h := hq
      clear hq
      refine ru_icmp_eq 128 ddX10_copies_109 (by decide) (fun hc => ?_) (fun hc => ?_)
      · rw [if_pos hc] at h
        refine ru_wk (L2 := [some (rurf E 0), none, none, some (.int x3), some (.int x4), some (.int x5), some (.int x6), none]) ⟨rfl, rfl, rfl, rfl, rfl, trivial⟩ ?_
        obtain ⟨rfl, rfl⟩ := ruS2 h
        exact J
      · rw [if_neg hc] at h
        refine ru_aload_n ddX10_copies_112 rfl ?_
        refine ru_iload_n ddX10_copies_113 rfl ?_
        refine ru_iload ddX10_copies_114 rfl ?_
        refine ru_iconst (3 : Int32) ddX10_copies_116 rfl ?_
        refine ru_iload ddX10_copies_117 rfl ?_
        obtain ⟨v17, A18, hv, h⟩ := ruB2_inv h
        refine ru_callVi (as := [.int x3, .int x6, .int (3 : Int32), .int v14]) (st := []) ddX10_copies_119 cvX10_180 rfl (wX10_marks 3 (Nat.le_refl _) x3 x6 (3 : Int32) v14 A hv) rfl (Nat.le_trans (m := 4) (by decide) hd) (Nat.le_of_ble_eq_true rfl) ?_
        clear hv
        refine ru_if_eq 128 ddX10_copies_122 (by decide) (fun hc => ?_) (fun hc => ?_)
        · rw [if_pos hc] at h
          refine ru_wk (L2 := [some (rurf E 0), none, none, some (.int x3), some (.int x4), some (.int x5), some (.int x6), none]) ⟨rfl, rfl, rfl, rfl, rfl, trivial⟩ ?_
          obtain ⟨rfl, rfl⟩ := ruS2 h
          exact J
        · rw [if_neg hc] at h
          refine ru_iinc (x5 + (1 : Int32)) ddX10_copies_125 (by decide) rfl rfl rfl rfl ?_
          refine ru_wk (L2 := [some (rurf E 0), none, none, some (.int x3), some (.int x4), some (.int (x5 + (1 : Int32))), some (.int x6), none]) ⟨rfl, rfl, rfl, rfl, rfl, trivial⟩ ?_
          obtain ⟨rfl, rfl⟩ := ruS2 h
          exact J
theorem wX10_copies {E : ruE} (d : Nat) (hd : 4 ≤ d) (x1 : Int32) (x2 : Int32) (A : ruA) {r : Int32} {B : ruA} (h : fX10_copies x1 x2 A = some (r, B)) : ruC E mmX10_copies d [rurf E 0, .int x1, .int x2] A (ruPr r B) := by
  refine ruC.of (L := [some (rurf E 0), some (.int x1), some (.int x2), none, none, none, none, none]) (by decide) rfl (Nat.le_of_ble_eq_true rfl) rfl ?_
  unfold fX10_copies at h
  refine ru_aload_n ddX10_copies_0 rfl ?_
  refine ru_iload_n ddX10_copies_1 rfl ?_
  obtain ⟨v1, hv, h⟩ := ruB_inv h
  refine ru_callVi (as := [.int x1]) (st := []) ddX10_copies_2 cvX10_113 rfl (wX10_isChild 2 (Nat.le_refl _) x1 A hv) rfl (Nat.le_trans (m := 4) (by decide) hd) (Nat.le_of_ble_eq_true rfl) ?_
  clear hv
  refine ru_if_eq 16 ddX10_copies_5 (by decide) (fun hc => ?_) (fun hc => ?_)
  · rw [if_pos hc] at h
    refine ru_aload_n ddX10_copies_16 rfl ?_
    refine ru_ldc (v := (-1000001 : Int32)) ddX10_copies_17 ckX10_81 ?_
    obtain ⟨v2, A3, hv, h⟩ := ruB2_inv h
    refine ru_callVi (as := [.int (-1000001 : Int32)]) (st := []) ddX10_copies_19 cvX10_82 rfl (wX10_finding 2 (Nat.le_refl _) (-1000001 : Int32) A hv) rfl (Nat.le_trans (m := 4) (by decide) hd) (Nat.le_of_ble_eq_true rfl) ?_
    clear hv
    exact ru_iretW ddX10_copies_22 rfl h
  · rw [if_neg hc] at h
    refine ru_aload_n ddX10_copies_8 rfl ?_
    refine ru_iload_n ddX10_copies_9 rfl ?_
    obtain ⟨v4, hv, h⟩ := ruB_inv h
    refine ru_callVi (as := [.int x2]) (st := []) ddX10_copies_10 cvX10_113 rfl (wX10_isChild 2 (Nat.le_refl _) x2 A hv) rfl (Nat.le_trans (m := 4) (by decide) hd) (Nat.le_of_ble_eq_true rfl) ?_
    clear hv
    refine ru_if_ne 23 ddX10_copies_13 (by decide) (fun hc => ?_) (fun hc => ?_)
    · rw [if_neg hc] at h
      refine ru_aload_n ddX10_copies_23 rfl ?_
      refine ru_iload_n ddX10_copies_24 rfl ?_
      obtain ⟨v5, hv, h⟩ := ruB_inv h
      refine ru_callVi (as := [.int x1]) (st := []) ddX10_copies_25 cvX10_143 rfl (wX10_openSheet 2 (Nat.le_refl _) x1 A hv) rfl (Nat.le_trans (m := 4) (by decide) hd) (Nat.le_of_ble_eq_true rfl) ?_
      clear hv
      refine ru_istore_n ddX10_copies_28 (by decide) rfl rfl ?_
      refine ru_aload_n ddX10_copies_29 rfl ?_
      refine ru_iload_n ddX10_copies_30 rfl ?_
      obtain ⟨v6, hv, h⟩ := ruB_inv h
      refine ru_callVi (as := [.int x2]) (st := []) ddX10_copies_31 cvX10_143 rfl (wX10_openSheet 2 (Nat.le_refl _) x2 A hv) rfl (Nat.le_trans (m := 4) (by decide) hd) (Nat.le_of_ble_eq_true rfl) ?_
      clear hv
      refine ru_istore ddX10_copies_34 (by decide) rfl rfl ?_
      refine ru_aload_n ddX10_copies_36 rfl ?_
      refine ru_getR (r := 9) ddX10_copies_37 flX10_32 rfl rfl ?_
      refine ru_getR (r := 10) ddX10_copies_40 flX10_146 rfl rfl ?_
      refine ru_iload_n ddX10_copies_43 rfl ?_
      obtain ⟨v7, hv, h⟩ := ruB_inv h
      refine ru_zald ddX10_copies_44 rfl hv ?_
      clear hv
      refine ru_if_eq 73 ddX10_copies_45 (by decide) (fun hc => ?_) (fun hc => ?_)
      · rw [if_pos hc] at h
        refine ru_aload_n ddX10_copies_73 rfl ?_
        refine ru_ldc (v := (-1000005 : Int32)) ddX10_copies_74 ckX10_105 ?_
        obtain ⟨v8, A9, hv, h⟩ := ruB2_inv h
        refine ru_callVi (as := [.int (-1000005 : Int32)]) (st := []) ddX10_copies_76 cvX10_82 rfl (wX10_finding 2 (Nat.le_refl _) (-1000005 : Int32) A hv) rfl (Nat.le_trans (m := 4) (by decide) hd) (Nat.le_of_ble_eq_true rfl) ?_
        clear hv
        exact ru_iretW ddX10_copies_79 rfl h
      · rw [if_neg hc] at h
        refine ru_aload_n ddX10_copies_48 rfl ?_
        refine ru_getR (r := 9) ddX10_copies_49 flX10_32 rfl rfl ?_
        refine ru_getR (r := 10) ddX10_copies_52 flX10_146 rfl rfl ?_
        refine ru_iload ddX10_copies_55 rfl ?_
        obtain ⟨v10, hv, h⟩ := ruB_inv h
        refine ru_zald ddX10_copies_57 rfl hv ?_
        clear hv
        refine ru_if_eq 73 ddX10_copies_58 (by decide) (fun hc => ?_) (fun hc => ?_)
        · rw [if_pos hc] at h
          refine ru_aload_n ddX10_copies_73 rfl ?_
          refine ru_ldc (v := (-1000005 : Int32)) ddX10_copies_74 ckX10_105 ?_
          obtain ⟨v11, A12, hv, h⟩ := ruB2_inv h
          refine ru_callVi (as := [.int (-1000005 : Int32)]) (st := []) ddX10_copies_76 cvX10_82 rfl (wX10_finding 2 (Nat.le_refl _) (-1000005 : Int32) A hv) rfl (Nat.le_trans (m := 4) (by decide) hd) (Nat.le_of_ble_eq_true rfl) ?_
          clear hv
          exact ru_iretW ddX10_copies_79 rfl h
        · rw [if_neg hc] at h
          refine ru_aload_n ddX10_copies_61 rfl ?_
          refine ru_getR (r := 2) ddX10_copies_62 flX10_27 rfl rfl ?_
          refine ru_iload_n ddX10_copies_65 rfl ?_
          refine ru_iload_n ddX10_copies_66 rfl ?_
          obtain ⟨v13, hv, h⟩ := ruB_inv h
          refine ru_callVi (as := [.int x1, .int x2]) (st := []) ddX10_copies_67 cvX10_187 rfl (wX5_areNeighbours 1 (Nat.le_refl _) x1 x2 A hv) rfl (Nat.le_trans (m := 4) (by decide) hd) (Nat.le_of_ble_eq_true rfl) ?_
          clear hv
          refine ru_if_ne 80 ddX10_copies_70 (by decide) (fun hc => ?_) (fun hc => ?_)
          · rw [if_neg hc] at h
            refine ru_iconst (0 : Int32) ddX10_copies_80 rfl ?_
            refine ru_istore ddX10_copies_81 (by decide) rfl rfl ?_
            refine ru_iconst (0 : Int32) ddX10_copies_83 rfl ?_
            refine ru_istore ddX10_copies_84 (by decide) rfl rfl ?_
            refine ru_wk (L2 := [some (rurf E 0), none, none, some (.int v5), some (.int v6), some (.int (0 : Int32)), some (.int (0 : Int32)), none]) ⟨rfl, rfl, rfl, rfl, rfl, trivial⟩ ?_
            exact wX10_copies_l86 hd v5 v6 (fun v19 A20 h => by
                  refine ru_iload ddX10_copies_134 rfl ?_
                  exact ru_iretW ddX10_copies_136 rfl h) ruF (0 : Int32) (0 : Int32) A h
          · rw [if_pos hc] at h
            refine ru_aload_n ddX10_copies_73 rfl ?_
            refine ru_ldc (v := (-1000005 : Int32)) ddX10_copies_74 ckX10_105 ?_
            obtain ⟨v21, A22, hv, h⟩ := ruB2_inv h
            refine ru_callVi (as := [.int (-1000005 : Int32)]) (st := []) ddX10_copies_76 cvX10_82 rfl (wX10_finding 2 (Nat.le_refl _) (-1000005 : Int32) A hv) rfl (Nat.le_trans (m := 4) (by decide) hd) (Nat.le_of_ble_eq_true rfl) ?_
            clear hv
            exact ru_iretW ddX10_copies_79 rfl h
    · rw [if_pos hc] at h
      refine ru_aload_n ddX10_copies_16 rfl ?_
      refine ru_ldc (v := (-1000001 : Int32)) ddX10_copies_17 ckX10_81 ?_
      obtain ⟨v23, A24, hv, h⟩ := ruB2_inv h
      refine ru_callVi (as := [.int (-1000001 : Int32)]) (st := []) ddX10_copies_19 cvX10_82 rfl (wX10_finding 2 (Nat.le_refl _) (-1000001 : Int32) A hv) rfl (Nat.le_trans (m := 4) (by decide) hd) (Nat.le_of_ble_eq_true rfl) ?_
      clear hv
      exact ru_iretW ddX10_copies_22 rfl h
theorem wX10_sitsIn {E : ruE} (d : Nat) (hd : 3 ≤ d) (x1 : Int32) (x2 : Int32) (A : ruA) {r : Int32} (h : fX10_sitsIn x1 x2 A = some r) : ruC E mmX10_sitsIn d [rurf E 0, .int x1, .int x2] A (ruPr r A) := by
  refine ruC.of (L := [some (rurf E 0), some (.int x1), some (.int x2)]) (by decide) rfl (Nat.le_of_ble_eq_true rfl) rfl ?_
  unfold fX10_sitsIn at h
  refine ru_aload_n ddX10_sitsIn_0 rfl ?_
  refine ru_getR (r := 2) ddX10_sitsIn_1 flX10_27 rfl rfl ?_
  refine ru_getR (r := 5) ddX10_sitsIn_4 flX10_123 rfl rfl ?_
  refine ru_iload_n ddX10_sitsIn_7 rfl ?_
  obtain ⟨v1, hv, h⟩ := ruB_inv h
  refine ru_iald ddX10_sitsIn_8 rfl hv ?_
  clear hv
  refine ru_iload_n ddX10_sitsIn_9 rfl ?_
  refine ru_icmp_ne 33 ddX10_sitsIn_10 (by decide) (fun hc => ?_) (fun hc => ?_)
  · rw [if_neg hc] at h
    refine ru_iconst (0 : Int32) ddX10_sitsIn_33 rfl ?_
    exact ru_zretP ddX10_sitsIn_34 rfl (Or.inl rfl) h
  · rw [if_pos hc] at h
    refine ru_aload_n ddX10_sitsIn_13 rfl ?_
    refine ru_getR (r := 9) ddX10_sitsIn_14 flX10_32 rfl rfl ?_
    refine ru_getR (r := 10) ddX10_sitsIn_17 flX10_146 rfl rfl ?_
    refine ru_aload_n ddX10_sitsIn_20 rfl ?_
    refine ru_iload_n ddX10_sitsIn_21 rfl ?_
    obtain ⟨v2, hv, h⟩ := ruB_inv h
    refine ru_callVi (as := [.int x1]) (st := [rurf E 10]) ddX10_sitsIn_22 cvX10_143 rfl (wX10_openSheet 2 (Nat.le_refl _) x1 A hv) rfl (Nat.le_trans (m := 3) (by decide) hd) (Nat.le_of_ble_eq_true rfl) ?_
    clear hv
    obtain ⟨v3, hv, h⟩ := ruB_inv h
    refine ru_zald ddX10_sitsIn_25 rfl hv ?_
    clear hv
    refine ru_if_eq 33 ddX10_sitsIn_26 (by decide) (fun hc => ?_) (fun hc => ?_)
    · rw [if_pos hc] at h
      refine ru_iconst (0 : Int32) ddX10_sitsIn_33 rfl ?_
      exact ru_zretP ddX10_sitsIn_34 rfl (Or.inl rfl) h
    · rw [if_neg hc] at h
      refine ru_iconst (1 : Int32) ddX10_sitsIn_29 rfl ?_
      refine ru_goto 34 ddX10_sitsIn_30 (by decide) ?_
      exact ru_zretP ddX10_sitsIn_34 rfl (Or.inr rfl) h
theorem wX10_said_l27 {E : ruE} {d : Nat} (hd : 4 ≤ d) {β : Type} {Q : Option Value → ruA → Prop} {res : β} (x1 : Int32) (x2 : Int32) {k82 : Int32 → ruA → Option (β)} (hk82 : ∀ (x3 : Int32) (A : ruA), k82 x3 A = some res → ruW E mmX10_said d Q 82 [none, none, none, some (.int x3), none] [] A) : ∀ (n : Nat) (x3 : Int32) (x4 : Int32) (A : ruA), fX10_said_l27 x1 x2 k82 n x3 x4 A = some res → ruW E mmX10_said d Q 27 [some (rurf E 0), some (.int x1), some (.int x2), some (.int x3), some (.int x4)] [] A := by
  intro n
  induction n with
  | zero =>
    intro x3 x4 A h
    exact absurd h (by rw [fX10_said_l27]; exact fun h => nomatch h)
  | succ n ih =>
    intro x3 x4 A h
    rw [fX10_said_l27] at h
    refine ru_iload ddX10_said_27 rfl ?_
    refine ru_aload_n ddX10_said_29 rfl ?_
    refine ru_getR (r := 2) ddX10_said_30 flX10_27 rfl rfl ?_
    refine ru_getI ddX10_said_33 flX10_106 rfl ?_
    refine ru_icmp_ge 82 ddX10_said_36 (by decide) (fun hc => ?_) (fun hc => ?_)
    · rw [if_pos hc] at h
      refine ru_wk (L2 := [none, none, none, some (.int x3), none]) ⟨rfl, trivial⟩ ?_
      exact hk82 x3 A h
    · rw [if_neg hc] at h
      refine ru_aload_n ddX10_said_39 rfl ?_
      refine ru_iload ddX10_said_40 rfl ?_
      refine ru_iload_n ddX10_said_42 rfl ?_
      obtain ⟨v5, hv, h⟩ := ruB_inv h
      refine ru_callVi (as := [.int x4, .int x1]) (st := []) ddX10_said_43 cvX10_193 rfl (wX10_sitsIn 3 (Nat.le_refl _) x4 x1 A hv) rfl (Nat.le_trans (m := 4) (by decide) hd) (Nat.le_of_ble_eq_true rfl) ?_
      clear hv
      obtain ⟨v6, A7, hq, h⟩ := ruB2_inv h
      have J : ruW E mmX10_said d Q 76 [some (rurf E 0), some (.int x1), some (.int x2), some (.int v6), some (.int x4)] [] A7 := by
          refine ru_iinc (x4 + (1 : Int32)) ddX10_said_76 (by decide) rfl rfl rfl rfl ?_
          refine ru_goto 27 ddX10_said_79 (by decide) ?_
          exact ih v6 (x4 + (1 : Int32)) A7 h
      replace h := hq
      clear hq
      refine ru_if_eq 76 ddX10_said_46 (by decide) (fun hc => ?_) (fun hc => ?_)
      · rw [if_pos hc] at h
        refine ru_wk (L2 := [some (rurf E 0), some (.int x1), some (.int x2), some (.int x3), some (.int x4)]) ⟨rfl, rfl, rfl, rfl, rfl, trivial⟩ ?_
        obtain ⟨rfl, rfl⟩ := ruS2 h
        exact J
      · rw [if_neg hc] at h
        refine ru_aload_n ddX10_said_49 rfl ?_
        refine ru_aload_n ddX10_said_50 rfl ?_
        refine ru_iload ddX10_said_51 rfl ?_
        obtain ⟨v8, hv, h⟩ := ruB_inv h
        refine ru_callVi (as := [.int x4]) (st := [rurf E 0]) ddX10_said_53 cvX10_143 rfl (wX10_openSheet 2 (Nat.le_refl _) x4 A hv) rfl (Nat.le_trans (m := 4) (by decide) hd) (Nat.le_of_ble_eq_true rfl) ?_
        clear hv
        refine ru_iload_n ddX10_said_56 rfl ?_
        refine ru_iconst (4 : Int32) ddX10_said_57 rfl ?_
        refine ru_aload_n ddX10_said_58 rfl ?_
        refine ru_getR (r := 2) ddX10_said_59 flX10_27 rfl rfl ?_
        refine ru_getR (r := 3) ddX10_said_62 flX10_86 rfl rfl ?_
        refine ru_iload_n ddX10_said_65 rfl ?_
        obtain ⟨v9, hv, h⟩ := ruB_inv h
        refine ru_iald ddX10_said_66 rfl hv ?_
        clear hv
        obtain ⟨v10, A11, hv, h⟩ := ruB2_inv h
        refine ru_callVi (as := [.int v8, .int x2, .int (4 : Int32), .int v9]) (st := []) ddX10_said_67 cvX10_180 rfl (wX10_marks 3 (Nat.le_refl _) v8 x2 (4 : Int32) v9 A hv) rfl (Nat.le_trans (m := 4) (by decide) hd) (Nat.le_of_ble_eq_true rfl) ?_
        clear hv
        refine ru_if_eq 76 ddX10_said_70 (by decide) (fun hc => ?_) (fun hc => ?_)
        · rw [if_pos hc] at h
          refine ru_wk (L2 := [some (rurf E 0), some (.int x1), some (.int x2), some (.int x3), some (.int x4)]) ⟨rfl, rfl, rfl, rfl, rfl, trivial⟩ ?_
          obtain ⟨rfl, rfl⟩ := ruS2 h
          exact J
        · rw [if_neg hc] at h
          refine ru_iinc (x3 + (1 : Int32)) ddX10_said_73 (by decide) rfl rfl rfl rfl ?_
          refine ru_wk (L2 := [some (rurf E 0), some (.int x1), some (.int x2), some (.int (x3 + (1 : Int32))), some (.int x4)]) ⟨rfl, rfl, rfl, rfl, rfl, trivial⟩ ?_
          obtain ⟨rfl, rfl⟩ := ruS2 h
          exact J
theorem wX10_said {E : ruE} (d : Nat) (hd : 4 ≤ d) (x1 : Int32) (x2 : Int32) (A : ruA) {r : Int32} {B : ruA} (h : fX10_said x1 x2 A = some (r, B)) : ruC E mmX10_said d [rurf E 0, .int x1, .int x2] A (ruPr r B) := by
  refine ruC.of (L := [some (rurf E 0), some (.int x1), some (.int x2), none, none]) (by decide) rfl (Nat.le_of_ble_eq_true rfl) rfl ?_
  unfold fX10_said at h
  refine ru_aload_n ddX10_said_0 rfl ?_
  refine ru_iload_n ddX10_said_1 rfl ?_
  obtain ⟨v1, hv, h⟩ := ruB_inv h
  refine ru_callVi (as := [.int x1]) (st := []) ddX10_said_2 cvX10_98 rfl (wX10_isRoom 2 (Nat.le_refl _) x1 A hv) rfl (Nat.le_trans (m := 4) (by decide) hd) (Nat.le_of_ble_eq_true rfl) ?_
  clear hv
  refine ru_if_eq 15 ddX10_said_5 (by decide) (fun hc => ?_) (fun hc => ?_)
  · rw [if_pos hc] at h
    refine ru_aload_n ddX10_said_15 rfl ?_
    refine ru_ldc (v := (-1000001 : Int32)) ddX10_said_16 ckX10_81 ?_
    obtain ⟨v2, A3, hv, h⟩ := ruB2_inv h
    refine ru_callVi (as := [.int (-1000001 : Int32)]) (st := []) ddX10_said_18 cvX10_82 rfl (wX10_finding 2 (Nat.le_refl _) (-1000001 : Int32) A hv) rfl (Nat.le_trans (m := 4) (by decide) hd) (Nat.le_of_ble_eq_true rfl) ?_
    clear hv
    exact ru_iretW ddX10_said_21 rfl h
  · rw [if_neg hc] at h
    refine ru_iload_n ddX10_said_8 rfl ?_
    obtain ⟨v4, hv, h⟩ := ruB_inv h
    refine ru_callSi (as := [.int x2]) (st := []) ddX10_said_9 csX10_73 (wX10_isQuestion 2 (Nat.le_refl _) x2 A hv) rfl (Nat.le_trans (m := 4) (by decide) hd) (Nat.le_of_ble_eq_true rfl) ?_
    clear hv
    refine ru_if_ne 22 ddX10_said_12 (by decide) (fun hc => ?_) (fun hc => ?_)
    · rw [if_neg hc] at h
      refine ru_iconst (0 : Int32) ddX10_said_22 rfl ?_
      refine ru_istore_n ddX10_said_23 (by decide) rfl rfl ?_
      refine ru_iconst (0 : Int32) ddX10_said_24 rfl ?_
      refine ru_istore ddX10_said_25 (by decide) rfl rfl ?_
      exact wX10_said_l27 hd x1 x2 (fun v12 A13 h => by
            refine ru_iload_n ddX10_said_82 rfl ?_
            exact ru_iretW ddX10_said_83 rfl h) ruF (0 : Int32) (0 : Int32) A h
    · rw [if_pos hc] at h
      refine ru_aload_n ddX10_said_15 rfl ?_
      refine ru_ldc (v := (-1000001 : Int32)) ddX10_said_16 ckX10_81 ?_
      obtain ⟨v14, A15, hv, h⟩ := ruB2_inv h
      refine ru_callVi (as := [.int (-1000001 : Int32)]) (st := []) ddX10_said_18 cvX10_82 rfl (wX10_finding 2 (Nat.le_refl _) (-1000001 : Int32) A hv) rfl (Nat.le_trans (m := 4) (by decide) hd) (Nat.le_of_ble_eq_true rfl) ?_
      clear hv
      exact ru_iretW ddX10_said_21 rfl h
theorem wX10_putRight_l5 {E : ruE} {d : Nat} (hd : 4 ≤ d) {β : Type} {Q : Option Value → ruA → Prop} {res : β} (x1 : Int32) (x2 : Int32) {k61 : Int32 → ruA → Option (β)} (hk61 : ∀ (x3 : Int32) (A : ruA), k61 x3 A = some res → ruW E mmX10_putRight d Q 61 [none, none, none, some (.int x3), none] [] A) : ∀ (n : Nat) (x3 : Int32) (x4 : Int32) (A : ruA), fX10_putRight_l5 x1 x2 k61 n x3 x4 A = some res → ruW E mmX10_putRight d Q 5 [some (rurf E 0), some (.int x1), some (.int x2), some (.int x3), some (.int x4)] [] A := by
  intro n
  induction n with
  | zero =>
    intro x3 x4 A h
    exact absurd h (by rw [fX10_putRight_l5]; exact fun h => nomatch h)
  | succ n ih =>
    intro x3 x4 A h
    rw [fX10_putRight_l5] at h
    refine ru_iload ddX10_putRight_5 rfl ?_
    refine ru_bipush (12 : Int32) ddX10_putRight_7 rfl ?_
    refine ru_icmp_ge 61 ddX10_putRight_9 (by decide) (fun hc => ?_) (fun hc => ?_)
    · rw [if_pos hc] at h
      refine ru_wk (L2 := [none, none, none, some (.int x3), none]) ⟨rfl, trivial⟩ ?_
      exact hk61 x3 A h
    · rw [if_neg hc] at h
      refine ru_iload_n ddX10_putRight_12 rfl ?_
      refine ru_iload_n ddX10_putRight_13 rfl ?_
      refine ru_icmp_ge 61 ddX10_putRight_14 (by decide) (fun hc => ?_) (fun hc => ?_)
      · rw [if_pos hc] at h
        refine ru_wk (L2 := [none, none, none, some (.int x3), none]) ⟨rfl, trivial⟩ ?_
        exact hk61 x3 A h
      · rw [if_neg hc] at h
        refine ru_aload_n ddX10_putRight_17 rfl ?_
        refine ru_getR (r := 9) ddX10_putRight_18 flX10_32 rfl rfl ?_
        refine ru_iload_n ddX10_putRight_21 rfl ?_
        refine ru_iload ddX10_putRight_22 rfl ?_
        obtain ⟨v1, hv, h⟩ := ruB_inv h
        refine ru_callVi (as := [.int x1, .int x4]) (st := []) ddX10_putRight_24 cvX10_190 rfl (wX6_choiceAt 1 (Nat.le_refl _) x1 x4 A hv) rfl (Nat.le_trans (m := 4) (by decide) hd) (Nat.le_of_ble_eq_true rfl) ?_
        clear hv
        refine ru_iconst (-1 : Int32) ddX10_putRight_27 rfl ?_
        obtain ⟨v2, A3, hq, h⟩ := ruB2_inv h
        have J : ruW E mmX10_putRight d Q 55 [some (rurf E 0), some (.int x1), some (.int x2), some (.int v2), some (.int x4)] [] A3 := by
            refine ru_iinc (x4 + (1 : Int32)) ddX10_putRight_55 (by decide) rfl rfl rfl rfl ?_
            refine ru_goto 5 ddX10_putRight_58 (by decide) ?_
            exact ih v2 (x4 + (1 : Int32)) A3 h
        replace h := hq
        clear hq
        refine ru_icmp_eq 55 ddX10_putRight_28 (by decide) (fun hc => ?_) (fun hc => ?_)
        · rw [if_pos hc] at h
          refine ru_wk (L2 := [some (rurf E 0), some (.int x1), some (.int x2), some (.int x3), some (.int x4)]) ⟨rfl, rfl, rfl, rfl, rfl, trivial⟩ ?_
          obtain ⟨rfl, rfl⟩ := ruS2 h
          exact J
        · rw [if_neg hc] at h
          refine ru_aload_n ddX10_putRight_31 rfl ?_
          refine ru_iload_n ddX10_putRight_32 rfl ?_
          refine ru_iload ddX10_putRight_33 rfl ?_
          refine ru_iconst (5 : Int32) ddX10_putRight_35 rfl ?_
          refine ru_aload_n ddX10_putRight_36 rfl ?_
          refine ru_getR (r := 2) ddX10_putRight_37 flX10_27 rfl rfl ?_
          refine ru_getR (r := 3) ddX10_putRight_40 flX10_86 rfl rfl ?_
          refine ru_iload ddX10_putRight_43 rfl ?_
          obtain ⟨v4, hv, h⟩ := ruB_inv h
          refine ru_iald ddX10_putRight_45 rfl hv ?_
          clear hv
          obtain ⟨v5, A6, hv, h⟩ := ruB2_inv h
          refine ru_callVi (as := [.int x1, .int x4, .int (5 : Int32), .int v4]) (st := []) ddX10_putRight_46 cvX10_180 rfl (wX10_marks 3 (Nat.le_refl _) x1 x4 (5 : Int32) v4 A hv) rfl (Nat.le_trans (m := 4) (by decide) hd) (Nat.le_of_ble_eq_true rfl) ?_
          clear hv
          refine ru_if_eq 55 ddX10_putRight_49 (by decide) (fun hc => ?_) (fun hc => ?_)
          · rw [if_pos hc] at h
            refine ru_wk (L2 := [some (rurf E 0), some (.int x1), some (.int x2), some (.int x3), some (.int x4)]) ⟨rfl, rfl, rfl, rfl, rfl, trivial⟩ ?_
            obtain ⟨rfl, rfl⟩ := ruS2 h
            exact J
          · rw [if_neg hc] at h
            refine ru_iinc (x3 + (1 : Int32)) ddX10_putRight_52 (by decide) rfl rfl rfl rfl ?_
            refine ru_wk (L2 := [some (rurf E 0), some (.int x1), some (.int x2), some (.int (x3 + (1 : Int32))), some (.int x4)]) ⟨rfl, rfl, rfl, rfl, rfl, trivial⟩ ?_
            obtain ⟨rfl, rfl⟩ := ruS2 h
            exact J
theorem wX10_putRight {E : ruE} (d : Nat) (hd : 4 ≤ d) (x1 : Int32) (x2 : Int32) (A : ruA) {r : Int32} {B : ruA} (h : fX10_putRight x1 x2 A = some (r, B)) : ruC E mmX10_putRight d [rurf E 0, .int x1, .int x2] A (ruPr r B) := by
  refine ruC.of (L := [some (rurf E 0), some (.int x1), some (.int x2), none, none]) (by decide) rfl (Nat.le_of_ble_eq_true rfl) rfl ?_
  unfold fX10_putRight at h
  refine ru_iconst (0 : Int32) ddX10_putRight_0 rfl ?_
  refine ru_istore_n ddX10_putRight_1 (by decide) rfl rfl ?_
  refine ru_iconst (0 : Int32) ddX10_putRight_2 rfl ?_
  refine ru_istore ddX10_putRight_3 (by decide) rfl rfl ?_
  exact wX10_putRight_l5 hd x1 x2 (fun v7 A8 h => by
        refine ru_iload_n ddX10_putRight_61 rfl ?_
        exact ru_iretW ddX10_putRight_62 rfl h) ruF (0 : Int32) (0 : Int32) A h
theorem wX10_puts_l30 {E : ruE} {d : Nat} (hd : 5 ≤ d) {β : Type} {Q : Option Value → ruA → Prop} {res : β} (x1 : Int32) (x2 : Int32) {k79 : Int32 → ruA → Option (β)} (hk79 : ∀ (x3 : Int32) (A : ruA), k79 x3 A = some res → ruW E mmX10_puts d Q 79 [none, none, none, some (.int x3), none] [] A) : ∀ (n : Nat) (x3 : Int32) (x4 : Int32) (A : ruA), fX10_puts_l30 x1 x2 k79 n x3 x4 A = some res → ruW E mmX10_puts d Q 30 [some (rurf E 0), some (.int x1), some (.int x2), some (.int x3), some (.int x4)] [] A := by
  intro n
  induction n with
  | zero =>
    intro x3 x4 A h
    exact absurd h (by rw [fX10_puts_l30]; exact fun h => nomatch h)
  | succ n ih =>
    intro x3 x4 A h
    rw [fX10_puts_l30] at h
    refine ru_iload ddX10_puts_30 rfl ?_
    refine ru_aload_n ddX10_puts_32 rfl ?_
    refine ru_getR (r := 2) ddX10_puts_33 flX10_27 rfl rfl ?_
    refine ru_getI ddX10_puts_36 flX10_106 rfl ?_
    refine ru_icmp_ge 79 ddX10_puts_39 (by decide) (fun hc => ?_) (fun hc => ?_)
    · rw [if_pos hc] at h
      refine ru_wk (L2 := [none, none, none, some (.int x3), none]) ⟨rfl, trivial⟩ ?_
      exact hk79 x3 A h
    · rw [if_neg hc] at h
      refine ru_iload_n ddX10_puts_42 rfl ?_
      refine ru_iload_n ddX10_puts_43 rfl ?_
      refine ru_icmp_ge 79 ddX10_puts_44 (by decide) (fun hc => ?_) (fun hc => ?_)
      · rw [if_pos hc] at h
        refine ru_wk (L2 := [none, none, none, some (.int x3), none]) ⟨rfl, trivial⟩ ?_
        exact hk79 x3 A h
      · rw [if_neg hc] at h
        refine ru_aload_n ddX10_puts_47 rfl ?_
        refine ru_iload ddX10_puts_48 rfl ?_
        refine ru_iload_n ddX10_puts_50 rfl ?_
        obtain ⟨v5, hv, h⟩ := ruB_inv h
        refine ru_callVi (as := [.int x4, .int x1]) (st := []) ddX10_puts_51 cvX10_193 rfl (wX10_sitsIn 3 (Nat.le_refl _) x4 x1 A hv) rfl (Nat.le_trans (m := 5) (by decide) hd) (Nat.le_of_ble_eq_true rfl) ?_
        clear hv
        obtain ⟨v6, A7, hq, h⟩ := ruB2_inv h
        have J : ruW E mmX10_puts d Q 73 [some (rurf E 0), some (.int x1), some (.int x2), some (.int v6), some (.int x4)] [] A7 := by
            refine ru_iinc (x4 + (1 : Int32)) ddX10_puts_73 (by decide) rfl rfl rfl rfl ?_
            refine ru_goto 30 ddX10_puts_76 (by decide) ?_
            exact ih v6 (x4 + (1 : Int32)) A7 h
        replace h := hq
        clear hq
        refine ru_if_eq 73 ddX10_puts_54 (by decide) (fun hc => ?_) (fun hc => ?_)
        · rw [if_pos hc] at h
          refine ru_wk (L2 := [some (rurf E 0), some (.int x1), some (.int x2), some (.int x3), some (.int x4)]) ⟨rfl, rfl, rfl, rfl, rfl, trivial⟩ ?_
          obtain ⟨rfl, rfl⟩ := ruS2 h
          exact J
        · rw [if_neg hc] at h
          refine ru_iload_n ddX10_puts_57 rfl ?_
          refine ru_aload_n ddX10_puts_58 rfl ?_
          refine ru_aload_n ddX10_puts_59 rfl ?_
          refine ru_iload ddX10_puts_60 rfl ?_
          obtain ⟨v8, hv, h⟩ := ruB_inv h
          refine ru_callVi (as := [.int x4]) (st := [rurf E 0, .int x3]) ddX10_puts_62 cvX10_143 rfl (wX10_openSheet 2 (Nat.le_refl _) x4 A hv) rfl (Nat.le_trans (m := 5) (by decide) hd) (Nat.le_of_ble_eq_true rfl) ?_
          clear hv
          refine ru_iload_n ddX10_puts_65 rfl ?_
          refine ru_iload_n ddX10_puts_66 rfl ?_
          refine ru_isub ddX10_puts_67 ?_
          obtain ⟨v9, A10, hv, h⟩ := ruB2_inv h
          refine ru_callVi (as := [.int v8, .int (x2 - x3)]) (st := [.int x3]) ddX10_puts_68 cvX10_196 rfl (wX10_putRight 4 (Nat.le_refl _) v8 (x2 - x3) A hv) rfl (Nat.le_trans (m := 5) (by decide) hd) (Nat.le_of_ble_eq_true rfl) ?_
          clear hv
          refine ru_iadd ddX10_puts_71 ?_
          refine ru_istore_n ddX10_puts_72 (by decide) rfl rfl ?_
          refine ru_wk (L2 := [some (rurf E 0), some (.int x1), some (.int x2), some (.int (x3 + v9)), some (.int x4)]) ⟨rfl, rfl, rfl, rfl, rfl, trivial⟩ ?_
          obtain ⟨rfl, rfl⟩ := ruS2 h
          exact J
theorem wX10_puts {E : ruE} (d : Nat) (hd : 5 ≤ d) (x1 : Int32) (x2 : Int32) (A : ruA) {r : Int32} {B : ruA} (h : fX10_puts x1 x2 A = some (r, B)) : ruC E mmX10_puts d [rurf E 0, .int x1, .int x2] A (ruPr r B) := by
  refine ruC.of (L := [some (rurf E 0), some (.int x1), some (.int x2), none, none]) (by decide) rfl (Nat.le_of_ble_eq_true rfl) rfl ?_
  unfold fX10_puts at h
  refine ru_aload_n ddX10_puts_0 rfl ?_
  refine ru_iload_n ddX10_puts_1 rfl ?_
  obtain ⟨v1, hv, h⟩ := ruB_inv h
  refine ru_callVi (as := [.int x1]) (st := []) ddX10_puts_2 cvX10_98 rfl (wX10_isRoom 2 (Nat.le_refl _) x1 A hv) rfl (Nat.le_trans (m := 5) (by decide) hd) (Nat.le_of_ble_eq_true rfl) ?_
  clear hv
  refine ru_if_eq 18 ddX10_puts_5 (by decide) (fun hc => ?_) (fun hc => ?_)
  · rw [if_pos hc] at h
    refine ru_aload_n ddX10_puts_18 rfl ?_
    refine ru_ldc (v := (-1000001 : Int32)) ddX10_puts_19 ckX10_81 ?_
    obtain ⟨v2, A3, hv, h⟩ := ruB2_inv h
    refine ru_callVi (as := [.int (-1000001 : Int32)]) (st := []) ddX10_puts_21 cvX10_82 rfl (wX10_finding 2 (Nat.le_refl _) (-1000001 : Int32) A hv) rfl (Nat.le_trans (m := 5) (by decide) hd) (Nat.le_of_ble_eq_true rfl) ?_
    clear hv
    exact ru_iretW ddX10_puts_24 rfl h
  · rw [if_neg hc] at h
    refine ru_iload_n ddX10_puts_8 rfl ?_
    refine ru_iconst (1 : Int32) ddX10_puts_9 rfl ?_
    refine ru_bipush (99 : Int32) ddX10_puts_10 rfl ?_
    obtain ⟨v4, hv, h⟩ := ruB_inv h
    refine ru_callSi (as := [.int x2, .int (1 : Int32), .int (99 : Int32)]) (st := []) ddX10_puts_12 csX10_77 (wX10_isWithin 1 (Nat.le_refl _) x2 (1 : Int32) (99 : Int32) A hv) rfl (Nat.le_trans (m := 5) (by decide) hd) (Nat.le_of_ble_eq_true rfl) ?_
    clear hv
    refine ru_if_ne 25 ddX10_puts_15 (by decide) (fun hc => ?_) (fun hc => ?_)
    · rw [if_neg hc] at h
      refine ru_iconst (0 : Int32) ddX10_puts_25 rfl ?_
      refine ru_istore_n ddX10_puts_26 (by decide) rfl rfl ?_
      refine ru_iconst (0 : Int32) ddX10_puts_27 rfl ?_
      refine ru_istore ddX10_puts_28 (by decide) rfl rfl ?_
      exact wX10_puts_l30 hd x1 x2 (fun v11 A12 h => by
            refine ru_iload_n ddX10_puts_79 rfl ?_
            exact ru_iretW ddX10_puts_80 rfl h) ruF (0 : Int32) (0 : Int32) A h
    · rw [if_pos hc] at h
      refine ru_aload_n ddX10_puts_18 rfl ?_
      refine ru_ldc (v := (-1000001 : Int32)) ddX10_puts_19 ckX10_81 ?_
      obtain ⟨v13, A14, hv, h⟩ := ruB2_inv h
      refine ru_callVi (as := [.int (-1000001 : Int32)]) (st := []) ddX10_puts_21 cvX10_82 rfl (wX10_finding 2 (Nat.le_refl _) (-1000001 : Int32) A hv) rfl (Nat.le_trans (m := 5) (by decide) hd) (Nat.le_of_ble_eq_true rfl) ?_
      clear hv
      exact ru_iretW ddX10_puts_24 rfl h
theorem wX10_fillBlanks_l4 {E : ruE} {d : Nat} (hd : 4 ≤ d) {β : Type} {Q : Option Value → ruA → Prop} {res : β} (x1 : Int32) {k52 : Int32 → ruA → Option (β)} (hk52 : ∀ (x2 : Int32) (A : ruA), k52 x2 A = some res → ruW E mmX10_fillBlanks d Q 52 [none, none, some (.int x2), none] [] A) : ∀ (n : Nat) (x2 : Int32) (x3 : Int32) (A : ruA), fX10_fillBlanks_l4 x1 k52 n x2 x3 A = some res → ruW E mmX10_fillBlanks d Q 4 [some (rurf E 0), some (.int x1), some (.int x2), some (.int x3)] [] A := by
  intro n
  induction n with
  | zero =>
    intro x2 x3 A h
    exact absurd h (by rw [fX10_fillBlanks_l4]; exact fun h => nomatch h)
  | succ n ih =>
    intro x2 x3 A h
    rw [fX10_fillBlanks_l4] at h
    refine ru_iload_n ddX10_fillBlanks_4 rfl ?_
    refine ru_bipush (12 : Int32) ddX10_fillBlanks_5 rfl ?_
    refine ru_icmp_ge 52 ddX10_fillBlanks_7 (by decide) (fun hc => ?_) (fun hc => ?_)
    · rw [if_pos hc] at h
      refine ru_wk (L2 := [none, none, some (.int x2), none]) ⟨rfl, trivial⟩ ?_
      exact hk52 x2 A h
    · rw [if_neg hc] at h
      refine ru_aload_n ddX10_fillBlanks_10 rfl ?_
      refine ru_getR (r := 9) ddX10_fillBlanks_11 flX10_32 rfl rfl ?_
      refine ru_iload_n ddX10_fillBlanks_14 rfl ?_
      refine ru_iload_n ddX10_fillBlanks_15 rfl ?_
      obtain ⟨v1, hv, h⟩ := ruB_inv h
      refine ru_callVi (as := [.int x1, .int x3]) (st := []) ddX10_fillBlanks_16 cvX10_190 rfl (wX6_choiceAt 1 (Nat.le_refl _) x1 x3 A hv) rfl (Nat.le_trans (m := 4) (by decide) hd) (Nat.le_of_ble_eq_true rfl) ?_
      clear hv
      refine ru_iconst (-1 : Int32) ddX10_fillBlanks_19 rfl ?_
      obtain ⟨v2, A3, hq, h⟩ := ruB2_inv h
      have J : ruW E mmX10_fillBlanks d Q 46 [some (rurf E 0), some (.int x1), some (.int v2), some (.int x3)] [] A3 := by
          refine ru_iinc (x3 + (1 : Int32)) ddX10_fillBlanks_46 (by decide) rfl rfl rfl rfl ?_
          refine ru_goto 4 ddX10_fillBlanks_49 (by decide) ?_
          exact ih v2 (x3 + (1 : Int32)) A3 h
      replace h := hq
      clear hq
      refine ru_icmp_ne 46 ddX10_fillBlanks_20 (by decide) (fun hc => ?_) (fun hc => ?_)
      · rw [if_neg hc] at h
        refine ru_wk (L2 := [some (rurf E 0), some (.int x1), some (.int x2), some (.int x3)]) ⟨rfl, rfl, rfl, rfl, trivial⟩ ?_
        obtain ⟨rfl, rfl⟩ := ruS2 h
        exact J
      · rw [if_pos hc] at h
        refine ru_aload_n ddX10_fillBlanks_23 rfl ?_
        refine ru_iload_n ddX10_fillBlanks_24 rfl ?_
        refine ru_iload_n ddX10_fillBlanks_25 rfl ?_
        refine ru_bipush (6 : Int32) ddX10_fillBlanks_26 rfl ?_
        refine ru_aload_n ddX10_fillBlanks_28 rfl ?_
        refine ru_getR (r := 2) ddX10_fillBlanks_29 flX10_27 rfl rfl ?_
        refine ru_getR (r := 3) ddX10_fillBlanks_32 flX10_86 rfl rfl ?_
        refine ru_iload_n ddX10_fillBlanks_35 rfl ?_
        obtain ⟨v4, hv, h⟩ := ruB_inv h
        refine ru_iald ddX10_fillBlanks_36 rfl hv ?_
        clear hv
        obtain ⟨v5, A6, hv, h⟩ := ruB2_inv h
        refine ru_callVi (as := [.int x1, .int x3, .int (6 : Int32), .int v4]) (st := []) ddX10_fillBlanks_37 cvX10_180 rfl (wX10_marks 3 (Nat.le_refl _) x1 x3 (6 : Int32) v4 A hv) rfl (Nat.le_trans (m := 4) (by decide) hd) (Nat.le_of_ble_eq_true rfl) ?_
        clear hv
        refine ru_if_eq 46 ddX10_fillBlanks_40 (by decide) (fun hc => ?_) (fun hc => ?_)
        · rw [if_pos hc] at h
          refine ru_wk (L2 := [some (rurf E 0), some (.int x1), some (.int x2), some (.int x3)]) ⟨rfl, rfl, rfl, rfl, trivial⟩ ?_
          obtain ⟨rfl, rfl⟩ := ruS2 h
          exact J
        · rw [if_neg hc] at h
          refine ru_iinc (x2 + (1 : Int32)) ddX10_fillBlanks_43 (by decide) rfl rfl rfl rfl ?_
          refine ru_wk (L2 := [some (rurf E 0), some (.int x1), some (.int (x2 + (1 : Int32))), some (.int x3)]) ⟨rfl, rfl, rfl, rfl, trivial⟩ ?_
          obtain ⟨rfl, rfl⟩ := ruS2 h
          exact J
theorem wX10_fillBlanks {E : ruE} (d : Nat) (hd : 4 ≤ d) (x1 : Int32) (A : ruA) {r : Int32} {B : ruA} (h : fX10_fillBlanks x1 A = some (r, B)) : ruC E mmX10_fillBlanks d [rurf E 0, .int x1] A (ruPr r B) := by
  refine ruC.of (L := [some (rurf E 0), some (.int x1), none, none]) (by decide) rfl (Nat.le_of_ble_eq_true rfl) rfl ?_
  unfold fX10_fillBlanks at h
  refine ru_iconst (0 : Int32) ddX10_fillBlanks_0 rfl ?_
  refine ru_istore_n ddX10_fillBlanks_1 (by decide) rfl rfl ?_
  refine ru_iconst (0 : Int32) ddX10_fillBlanks_2 rfl ?_
  refine ru_istore_n ddX10_fillBlanks_3 (by decide) rfl rfl ?_
  exact wX10_fillBlanks_l4 hd x1 (fun v7 A8 h => by
        refine ru_iload_n ddX10_fillBlanks_52 rfl ?_
        exact ru_iretW ddX10_fillBlanks_53 rfl h) ruF (0 : Int32) (0 : Int32) A h
theorem wX10_fills_l19 {E : ruE} {d : Nat} (hd : 5 ≤ d) {β : Type} {Q : Option Value → ruA → Prop} {res : β} (x1 : Int32) {k57 : Int32 → ruA → Option (β)} (hk57 : ∀ (x2 : Int32) (A : ruA), k57 x2 A = some res → ruW E mmX10_fills d Q 57 [none, none, some (.int x2), none] [] A) : ∀ (n : Nat) (x2 : Int32) (x3 : Int32) (A : ruA), fX10_fills_l19 x1 k57 n x2 x3 A = some res → ruW E mmX10_fills d Q 19 [some (rurf E 0), some (.int x1), some (.int x2), some (.int x3)] [] A := by
  intro n
  induction n with
  | zero =>
    intro x2 x3 A h
    exact absurd h (by rw [fX10_fills_l19]; exact fun h => nomatch h)
  | succ n ih =>
    intro x2 x3 A h
    rw [fX10_fills_l19] at h
    refine ru_iload_n ddX10_fills_19 rfl ?_
    refine ru_aload_n ddX10_fills_20 rfl ?_
    refine ru_getR (r := 2) ddX10_fills_21 flX10_27 rfl rfl ?_
    refine ru_getI ddX10_fills_24 flX10_106 rfl ?_
    refine ru_icmp_ge 57 ddX10_fills_27 (by decide) (fun hc => ?_) (fun hc => ?_)
    · rw [if_pos hc] at h
      refine ru_wk (L2 := [none, none, some (.int x2), none]) ⟨rfl, trivial⟩ ?_
      exact hk57 x2 A h
    · rw [if_neg hc] at h
      refine ru_aload_n ddX10_fills_30 rfl ?_
      refine ru_iload_n ddX10_fills_31 rfl ?_
      refine ru_iload_n ddX10_fills_32 rfl ?_
      obtain ⟨v2, hv, h⟩ := ruB_inv h
      refine ru_callVi (as := [.int x3, .int x1]) (st := []) ddX10_fills_33 cvX10_193 rfl (wX10_sitsIn 3 (Nat.le_refl _) x3 x1 A hv) rfl (Nat.le_trans (m := 5) (by decide) hd) (Nat.le_of_ble_eq_true rfl) ?_
      clear hv
      obtain ⟨v3, A4, hq, h⟩ := ruB2_inv h
      have J : ruW E mmX10_fills d Q 51 [some (rurf E 0), some (.int x1), some (.int v3), some (.int x3)] [] A4 := by
          refine ru_iinc (x3 + (1 : Int32)) ddX10_fills_51 (by decide) rfl rfl rfl rfl ?_
          refine ru_goto 19 ddX10_fills_54 (by decide) ?_
          exact ih v3 (x3 + (1 : Int32)) A4 h
      replace h := hq
      clear hq
      refine ru_if_eq 51 ddX10_fills_36 (by decide) (fun hc => ?_) (fun hc => ?_)
      · rw [if_pos hc] at h
        refine ru_wk (L2 := [some (rurf E 0), some (.int x1), some (.int x2), some (.int x3)]) ⟨rfl, rfl, rfl, rfl, trivial⟩ ?_
        obtain ⟨rfl, rfl⟩ := ruS2 h
        exact J
      · rw [if_neg hc] at h
        refine ru_iload_n ddX10_fills_39 rfl ?_
        refine ru_aload_n ddX10_fills_40 rfl ?_
        refine ru_aload_n ddX10_fills_41 rfl ?_
        refine ru_iload_n ddX10_fills_42 rfl ?_
        obtain ⟨v5, hv, h⟩ := ruB_inv h
        refine ru_callVi (as := [.int x3]) (st := [rurf E 0, .int x2]) ddX10_fills_43 cvX10_143 rfl (wX10_openSheet 2 (Nat.le_refl _) x3 A hv) rfl (Nat.le_trans (m := 5) (by decide) hd) (Nat.le_of_ble_eq_true rfl) ?_
        clear hv
        obtain ⟨v6, A7, hv, h⟩ := ruB2_inv h
        refine ru_callVi (as := [.int v5]) (st := [.int x2]) ddX10_fills_46 cvX10_199 rfl (wX10_fillBlanks 4 (Nat.le_refl _) v5 A hv) rfl (Nat.le_trans (m := 5) (by decide) hd) (Nat.le_of_ble_eq_true rfl) ?_
        clear hv
        refine ru_iadd ddX10_fills_49 ?_
        refine ru_istore_n ddX10_fills_50 (by decide) rfl rfl ?_
        refine ru_wk (L2 := [some (rurf E 0), some (.int x1), some (.int (x2 + v6)), some (.int x3)]) ⟨rfl, rfl, rfl, rfl, trivial⟩ ?_
        obtain ⟨rfl, rfl⟩ := ruS2 h
        exact J
theorem wX10_fills {E : ruE} (d : Nat) (hd : 5 ≤ d) (x1 : Int32) (A : ruA) {r : Int32} {B : ruA} (h : fX10_fills x1 A = some (r, B)) : ruC E mmX10_fills d [rurf E 0, .int x1] A (ruPr r B) := by
  refine ruC.of (L := [some (rurf E 0), some (.int x1), none, none]) (by decide) rfl (Nat.le_of_ble_eq_true rfl) rfl ?_
  unfold fX10_fills at h
  refine ru_aload_n ddX10_fills_0 rfl ?_
  refine ru_iload_n ddX10_fills_1 rfl ?_
  obtain ⟨v1, hv, h⟩ := ruB_inv h
  refine ru_callVi (as := [.int x1]) (st := []) ddX10_fills_2 cvX10_98 rfl (wX10_isRoom 2 (Nat.le_refl _) x1 A hv) rfl (Nat.le_trans (m := 5) (by decide) hd) (Nat.le_of_ble_eq_true rfl) ?_
  clear hv
  refine ru_if_ne 15 ddX10_fills_5 (by decide) (fun hc => ?_) (fun hc => ?_)
  · rw [if_neg hc] at h
    refine ru_iconst (0 : Int32) ddX10_fills_15 rfl ?_
    refine ru_istore_n ddX10_fills_16 (by decide) rfl rfl ?_
    refine ru_iconst (0 : Int32) ddX10_fills_17 rfl ?_
    refine ru_istore_n ddX10_fills_18 (by decide) rfl rfl ?_
    exact wX10_fills_l19 hd x1 (fun v8 A9 h => by
          refine ru_iload_n ddX10_fills_57 rfl ?_
          exact ru_iretW ddX10_fills_58 rfl h) ruF (0 : Int32) (0 : Int32) A h
  · rw [if_pos hc] at h
    refine ru_aload_n ddX10_fills_8 rfl ?_
    refine ru_ldc (v := (-1000001 : Int32)) ddX10_fills_9 ckX10_81 ?_
    obtain ⟨v10, A11, hv, h⟩ := ruB2_inv h
    refine ru_callVi (as := [.int (-1000001 : Int32)]) (st := []) ddX10_fills_11 cvX10_82 rfl (wX10_finding 2 (Nat.le_refl _) (-1000001 : Int32) A hv) rfl (Nat.le_trans (m := 5) (by decide) hd) (Nat.le_of_ble_eq_true rfl) ?_
    clear hv
    exact ru_iretW ddX10_fills_14 rfl h
theorem wX10_leaves {E : ruE} (d : Nat) (hd : 3 ≤ d) (x1 : Int32) (A : ruA) {r : Int32} {B : ruA} (h : fX10_leaves x1 A = some (r, B)) : ruC E mmX10_leaves d [rurf E 0, .int x1] A (ruPr r B) := by
  refine ruC.of (L := [some (rurf E 0), some (.int x1), none]) (by decide) rfl (Nat.le_of_ble_eq_true rfl) rfl ?_
  unfold fX10_leaves at h
  refine ru_aload_n ddX10_leaves_0 rfl ?_
  refine ru_iload_n ddX10_leaves_1 rfl ?_
  obtain ⟨v1, hv, h⟩ := ruB_inv h
  refine ru_callVi (as := [.int x1]) (st := []) ddX10_leaves_2 cvX10_113 rfl (wX10_isChild 2 (Nat.le_refl _) x1 A hv) rfl (Nat.le_trans (m := 3) (by decide) hd) (Nat.le_of_ble_eq_true rfl) ?_
  clear hv
  refine ru_if_ne 15 ddX10_leaves_5 (by decide) (fun hc => ?_) (fun hc => ?_)
  · rw [if_neg hc] at h
    refine ru_aload_n ddX10_leaves_15 rfl ?_
    refine ru_iload_n ddX10_leaves_16 rfl ?_
    obtain ⟨v2, hv, h⟩ := ruB_inv h
    refine ru_callVi (as := [.int x1]) (st := []) ddX10_leaves_17 cvX10_143 rfl (wX10_openSheet 2 (Nat.le_refl _) x1 A hv) rfl (Nat.le_trans (m := 3) (by decide) hd) (Nat.le_of_ble_eq_true rfl) ?_
    clear hv
    refine ru_istore_n ddX10_leaves_20 (by decide) rfl rfl ?_
    refine ru_aload_n ddX10_leaves_21 rfl ?_
    refine ru_getR (r := 9) ddX10_leaves_22 flX10_32 rfl rfl ?_
    refine ru_getR (r := 10) ddX10_leaves_25 flX10_146 rfl rfl ?_
    refine ru_iload_n ddX10_leaves_28 rfl ?_
    obtain ⟨v3, hv, h⟩ := ruB_inv h
    refine ru_zald ddX10_leaves_29 rfl hv ?_
    clear hv
    refine ru_if_ne 40 ddX10_leaves_30 (by decide) (fun hc => ?_) (fun hc => ?_)
    · rw [if_neg hc] at h
      refine ru_aload_n ddX10_leaves_40 rfl ?_
      refine ru_getR (r := 9) ddX10_leaves_41 flX10_32 rfl rfl ?_
      refine ru_getR (r := 10) ddX10_leaves_44 flX10_146 rfl rfl ?_
      refine ru_iload_n ddX10_leaves_47 rfl ?_
      refine ru_iconst (0 : Int32) ddX10_leaves_48 rfl ?_
      obtain ⟨A4, hv, h⟩ := ruB_inv h
      refine ru_zast ddX10_leaves_49 rfl hv ?_
      clear hv
      refine ru_aload_n ddX10_leaves_50 rfl ?_
      refine ru_getR (r := 9) ddX10_leaves_51 flX10_32 rfl rfl ?_
      refine ru_iload_n ddX10_leaves_54 rfl ?_
      refine ru_aload_n ddX10_leaves_55 rfl ?_
      refine ru_getR (r := 2) ddX10_leaves_56 flX10_27 rfl rfl ?_
      refine ru_getR (r := 3) ddX10_leaves_59 flX10_86 rfl rfl ?_
      obtain ⟨v5, hv, h⟩ := ruB_inv h
      refine ru_callVi (as := [.int v2, rurf E 3]) (st := []) ddX10_leaves_62 cvX10_158 rfl (wX6_rights 2 (Nat.le_refl _) v2 A4 hv) rfl (Nat.le_trans (m := 3) (by decide) hd) (Nat.le_of_ble_eq_true rfl) ?_
      clear hv
      exact ru_iretW ddX10_leaves_65 rfl h
    · rw [if_pos hc] at h
      refine ru_aload_n ddX10_leaves_33 rfl ?_
      refine ru_ldc (v := (-1000004 : Int32)) ddX10_leaves_34 ckX10_202 ?_
      obtain ⟨v6, A7, hv, h⟩ := ruB2_inv h
      refine ru_callVi (as := [.int (-1000004 : Int32)]) (st := []) ddX10_leaves_36 cvX10_82 rfl (wX10_finding 2 (Nat.le_refl _) (-1000004 : Int32) A hv) rfl (Nat.le_trans (m := 3) (by decide) hd) (Nat.le_of_ble_eq_true rfl) ?_
      clear hv
      exact ru_iretW ddX10_leaves_39 rfl h
  · rw [if_pos hc] at h
    refine ru_aload_n ddX10_leaves_8 rfl ?_
    refine ru_ldc (v := (-1000001 : Int32)) ddX10_leaves_9 ckX10_81 ?_
    obtain ⟨v8, A9, hv, h⟩ := ruB2_inv h
    refine ru_callVi (as := [.int (-1000001 : Int32)]) (st := []) ddX10_leaves_11 cvX10_82 rfl (wX10_finding 2 (Nat.le_refl _) (-1000001 : Int32) A hv) rfl (Nat.le_trans (m := 3) (by decide) hd) (Nat.le_of_ble_eq_true rfl) ?_
    clear hv
    exact ru_iretW ddX10_leaves_14 rfl h
theorem wX10_isYear {E : ruE} (d : Nat) (hd : 2 ≤ d) (x0 : Int32) (A : ruA) {r : Int32} (h : fX10_isYear x0 = some r) : ruC E mmX10_isYear d [.int x0] A (ruPr r A) := by
  refine ruC.of (L := [some (.int x0)]) (by decide) rfl (Nat.le_of_ble_eq_true rfl) rfl ?_
  unfold fX10_isYear at h
  refine ru_iload_n ddX10_isYear_0 rfl ?_
  refine ru_iconst (0 : Int32) ddX10_isYear_1 rfl ?_
  refine ru_iconst (5 : Int32) ddX10_isYear_2 rfl ?_
  obtain ⟨v1, hv, h⟩ := ruB_inv h
  refine ru_callSi (as := [.int x0, .int (0 : Int32), .int (5 : Int32)]) (st := []) ddX10_isYear_3 csX10_77 (wX10_isWithin 1 (Nat.le_refl _) x0 (0 : Int32) (5 : Int32) A hv) rfl (Nat.le_trans (m := 2) (by decide) hd) (Nat.le_of_ble_eq_true rfl) ?_
  clear hv
  obtain ⟨_, hz, h⟩ := ruB_inv h
  exact ru_zretP ddX10_isYear_6 rfl (rubz_eq hz) h
theorem wX6_kindAt {E : ruE} (d : Nat) (hd : 1 ≤ d) (x1 : Int32) (x2 : Int32) (A : ruA) {r : Int32} (h : fX6_kindAt x1 x2 A = some r) : ruC E mmX6_kindAt d [rurf E 9, .int x1, .int x2] A (ruPr r A) := by
  refine ruC.of (L := [some (rurf E 9), some (.int x1), some (.int x2)]) (by decide) rfl (Nat.le_of_ble_eq_true rfl) rfl ?_
  unfold fX6_kindAt at h
  refine ru_aload_n ddX6_kindAt_0 rfl ?_
  refine ru_getR (r := 12) ddX6_kindAt_1 flX6_19 rfl rfl ?_
  refine ru_iload_n ddX6_kindAt_4 rfl ?_
  refine ru_bipush (12 : Int32) ddX6_kindAt_5 rfl ?_
  refine ru_imul ddX6_kindAt_7 ?_
  refine ru_iload_n ddX6_kindAt_8 rfl ?_
  refine ru_iadd ddX6_kindAt_9 ?_
  obtain ⟨v1, hv, h⟩ := ruB_inv h
  refine ru_iald ddX6_kindAt_10 rfl hv ?_
  clear hv
  exact ru_iretP ddX6_kindAt_11 rfl h
theorem wX10_bubble {E : ruE} (d : Nat) (hd : 3 ≤ d) (x1 : Int32) (x2 : Int32) (x3 : Int32) (x4 : Int32) (A : ruA) {r : Int32} {B : ruA} (h : fX10_bubble x1 x2 x3 x4 A = some (r, B)) : ruC E mmX10_bubble d [rurf E 0, .int x1, .int x2, .int x3, .int x4] A (ruPr r B) := by
  refine ruC.of (L := [some (rurf E 0), some (.int x1), some (.int x2), some (.int x3), some (.int x4), none]) (by decide) rfl (Nat.le_of_ble_eq_true rfl) rfl ?_
  unfold fX10_bubble at h
  refine ru_aload_n ddX10_bubble_0 rfl ?_
  refine ru_iload_n ddX10_bubble_1 rfl ?_
  obtain ⟨v1, hv, h⟩ := ruB_inv h
  refine ru_callVi (as := [.int x1]) (st := []) ddX10_bubble_2 cvX10_113 rfl (wX10_isChild 2 (Nat.le_refl _) x1 A hv) rfl (Nat.le_trans (m := 3) (by decide) hd) (Nat.le_of_ble_eq_true rfl) ?_
  clear hv
  refine ru_if_eq 32 ddX10_bubble_5 (by decide) (fun hc => ?_) (fun hc => ?_)
  · rw [if_pos hc] at h
    refine ru_aload_n ddX10_bubble_32 rfl ?_
    refine ru_ldc (v := (-1000001 : Int32)) ddX10_bubble_33 ckX10_81 ?_
    obtain ⟨v2, A3, hv, h⟩ := ruB2_inv h
    refine ru_callVi (as := [.int (-1000001 : Int32)]) (st := []) ddX10_bubble_35 cvX10_82 rfl (wX10_finding 2 (Nat.le_refl _) (-1000001 : Int32) A hv) rfl (Nat.le_trans (m := 3) (by decide) hd) (Nat.le_of_ble_eq_true rfl) ?_
    clear hv
    exact ru_iretW ddX10_bubble_38 rfl h
  · rw [if_neg hc] at h
    refine ru_iload_n ddX10_bubble_8 rfl ?_
    obtain ⟨v4, hv, h⟩ := ruB_inv h
    refine ru_callSi (as := [.int x2]) (st := []) ddX10_bubble_9 csX10_203 (wX10_isYear 2 (Nat.le_refl _) x2 A hv) rfl (Nat.le_trans (m := 3) (by decide) hd) (Nat.le_of_ble_eq_true rfl) ?_
    clear hv
    refine ru_if_eq 32 ddX10_bubble_12 (by decide) (fun hc => ?_) (fun hc => ?_)
    · rw [if_pos hc] at h
      refine ru_aload_n ddX10_bubble_32 rfl ?_
      refine ru_ldc (v := (-1000001 : Int32)) ddX10_bubble_33 ckX10_81 ?_
      obtain ⟨v5, A6, hv, h⟩ := ruB2_inv h
      refine ru_callVi (as := [.int (-1000001 : Int32)]) (st := []) ddX10_bubble_35 cvX10_82 rfl (wX10_finding 2 (Nat.le_refl _) (-1000001 : Int32) A hv) rfl (Nat.le_trans (m := 3) (by decide) hd) (Nat.le_of_ble_eq_true rfl) ?_
      clear hv
      exact ru_iretW ddX10_bubble_38 rfl h
    · rw [if_neg hc] at h
      refine ru_iload_n ddX10_bubble_15 rfl ?_
      obtain ⟨v7, hv, h⟩ := ruB_inv h
      refine ru_callSi (as := [.int x3]) (st := []) ddX10_bubble_16 csX10_73 (wX10_isQuestion 2 (Nat.le_refl _) x3 A hv) rfl (Nat.le_trans (m := 3) (by decide) hd) (Nat.le_of_ble_eq_true rfl) ?_
      clear hv
      refine ru_if_eq 32 ddX10_bubble_19 (by decide) (fun hc => ?_) (fun hc => ?_)
      · rw [if_pos hc] at h
        refine ru_aload_n ddX10_bubble_32 rfl ?_
        refine ru_ldc (v := (-1000001 : Int32)) ddX10_bubble_33 ckX10_81 ?_
        obtain ⟨v8, A9, hv, h⟩ := ruB2_inv h
        refine ru_callVi (as := [.int (-1000001 : Int32)]) (st := []) ddX10_bubble_35 cvX10_82 rfl (wX10_finding 2 (Nat.le_refl _) (-1000001 : Int32) A hv) rfl (Nat.le_trans (m := 3) (by decide) hd) (Nat.le_of_ble_eq_true rfl) ?_
        clear hv
        exact ru_iretW ddX10_bubble_38 rfl h
      · rw [if_neg hc] at h
        refine ru_iload ddX10_bubble_22 rfl ?_
        refine ru_iconst (0 : Int32) ddX10_bubble_24 rfl ?_
        refine ru_iconst (2 : Int32) ddX10_bubble_25 rfl ?_
        obtain ⟨v10, hv, h⟩ := ruB_inv h
        refine ru_callSi (as := [.int x4, .int (0 : Int32), .int (2 : Int32)]) (st := []) ddX10_bubble_26 csX10_77 (wX10_isWithin 1 (Nat.le_refl _) x4 (0 : Int32) (2 : Int32) A hv) rfl (Nat.le_trans (m := 3) (by decide) hd) (Nat.le_of_ble_eq_true rfl) ?_
        clear hv
        refine ru_if_ne 39 ddX10_bubble_29 (by decide) (fun hc => ?_) (fun hc => ?_)
        · rw [if_neg hc] at h
          refine ru_iload_n ddX10_bubble_39 rfl ?_
          refine ru_iload_n ddX10_bubble_40 rfl ?_
          obtain ⟨v11, hv, h⟩ := ruB_inv h
          refine ru_callSi (as := [.int x1, .int x2]) (st := []) ddX10_bubble_41 csX10_206 (wX6_place 1 (Nat.le_refl _) x1 x2 A hv) rfl (Nat.le_trans (m := 3) (by decide) hd) (Nat.le_of_ble_eq_true rfl) ?_
          clear hv
          refine ru_istore ddX10_bubble_44 (by decide) rfl rfl ?_
          refine ru_aload_n ddX10_bubble_46 rfl ?_
          refine ru_getR (r := 9) ddX10_bubble_47 flX10_32 rfl rfl ?_
          refine ru_getR (r := 10) ddX10_bubble_50 flX10_146 rfl rfl ?_
          refine ru_iload ddX10_bubble_53 rfl ?_
          obtain ⟨v12, hv, h⟩ := ruB_inv h
          refine ru_zald ddX10_bubble_55 rfl hv ?_
          clear hv
          refine ru_if_ne 66 ddX10_bubble_56 (by decide) (fun hc => ?_) (fun hc => ?_)
          · rw [if_neg hc] at h
            refine ru_iload ddX10_bubble_66 rfl ?_
            by_cases hc0 : x4 = (0 : Int32)
            · rw [if_pos hc0] at h
              refine ru_lokC 96 ddX10_bubble_68 (by decide) hc0 rfl (by decide) ?_
              refine ru_aload_n ddX10_bubble_96 rfl ?_
              refine ru_getR (r := 9) ddX10_bubble_97 flX10_32 rfl rfl ?_
              refine ru_iload ddX10_bubble_100 rfl ?_
              refine ru_iload_n ddX10_bubble_102 rfl ?_
              obtain ⟨v13, hv, h⟩ := ruB_inv h
              refine ru_callVi (as := [.int v11, .int x3]) (st := []) ddX10_bubble_103 cvX10_190 rfl (wX6_choiceAt 1 (Nat.le_refl _) v11 x3 A hv) rfl (Nat.le_trans (m := 3) (by decide) hd) (Nat.le_of_ble_eq_true rfl) ?_
              clear hv
              exact ru_iretW ddX10_bubble_106 rfl h
            · rw [if_neg hc0] at h
              by_cases hc1 : x4 = (1 : Int32)
              · rw [if_pos hc1] at h
                refine ru_lokC 107 ddX10_bubble_68 (by decide) hc1 rfl (by decide) ?_
                refine ru_aload_n ddX10_bubble_107 rfl ?_
                refine ru_getR (r := 9) ddX10_bubble_108 flX10_32 rfl rfl ?_
                refine ru_iload ddX10_bubble_111 rfl ?_
                refine ru_iload_n ddX10_bubble_113 rfl ?_
                obtain ⟨v14, hv, h⟩ := ruB_inv h
                refine ru_callVi (as := [.int v11, .int x3]) (st := []) ddX10_bubble_114 cvX10_209 rfl (wX6_kindAt 1 (Nat.le_refl _) v11 x3 A hv) rfl (Nat.le_trans (m := 3) (by decide) hd) (Nat.le_of_ble_eq_true rfl) ?_
                clear hv
                exact ru_iretW ddX10_bubble_117 rfl h
              · rw [if_neg hc1] at h
                refine ru_lokD2 118 ddX10_bubble_68 hc0 hc1 (by decide) ?_
                refine ru_aload_n ddX10_bubble_118 rfl ?_
                refine ru_getR (r := 9) ddX10_bubble_119 flX10_32 rfl rfl ?_
                refine ru_iload ddX10_bubble_122 rfl ?_
                refine ru_iload_n ddX10_bubble_124 rfl ?_
                obtain ⟨v15, hv, h⟩ := ruB_inv h
                refine ru_callVi (as := [.int v11, .int x3]) (st := []) ddX10_bubble_125 cvX10_190 rfl (wX6_choiceAt 1 (Nat.le_refl _) v11 x3 A hv) rfl (Nat.le_trans (m := 3) (by decide) hd) (Nat.le_of_ble_eq_true rfl) ?_
                clear hv
                refine ru_aload_n ddX10_bubble_128 rfl ?_
                refine ru_getR (r := 2) ddX10_bubble_129 flX10_27 rfl rfl ?_
                refine ru_getR (r := 3) ddX10_bubble_132 flX10_86 rfl rfl ?_
                refine ru_iload_n ddX10_bubble_135 rfl ?_
                obtain ⟨v16, hv, h⟩ := ruB_inv h
                refine ru_iald ddX10_bubble_136 rfl hv ?_
                clear hv
                refine ru_icmp_ne 144 ddX10_bubble_137 (by decide) (fun hc => ?_) (fun hc => ?_)
                · rw [if_neg hc] at h
                  refine ru_iconst (0 : Int32) ddX10_bubble_144 rfl ?_
                  exact ru_iretW ddX10_bubble_145 rfl h
                · rw [if_pos hc] at h
                  refine ru_iconst (1 : Int32) ddX10_bubble_140 rfl ?_
                  refine ru_goto 145 ddX10_bubble_141 (by decide) ?_
                  exact ru_iretW ddX10_bubble_145 rfl h
          · rw [if_pos hc] at h
            refine ru_aload_n ddX10_bubble_59 rfl ?_
            refine ru_ldc (v := (-1000004 : Int32)) ddX10_bubble_60 ckX10_202 ?_
            obtain ⟨v17, A18, hv, h⟩ := ruB2_inv h
            refine ru_callVi (as := [.int (-1000004 : Int32)]) (st := []) ddX10_bubble_62 cvX10_82 rfl (wX10_finding 2 (Nat.le_refl _) (-1000004 : Int32) A hv) rfl (Nat.le_trans (m := 3) (by decide) hd) (Nat.le_of_ble_eq_true rfl) ?_
            clear hv
            exact ru_iretW ddX10_bubble_65 rfl h
        · rw [if_pos hc] at h
          refine ru_aload_n ddX10_bubble_32 rfl ?_
          refine ru_ldc (v := (-1000001 : Int32)) ddX10_bubble_33 ckX10_81 ?_
          obtain ⟨v19, A20, hv, h⟩ := ruB2_inv h
          refine ru_callVi (as := [.int (-1000001 : Int32)]) (st := []) ddX10_bubble_35 cvX10_82 rfl (wX10_finding 2 (Nat.le_refl _) (-1000001 : Int32) A hv) rfl (Nat.le_trans (m := 3) (by decide) hd) (Nat.le_of_ble_eq_true rfl) ?_
          clear hv
          exact ru_iretW ddX10_bubble_38 rfl h
theorem wX6_filled_l4 {E : ruE} {d : Nat} (hd : 2 ≤ d) {β : Type} {Q : Option Value → ruA → Prop} {res : β} (x1 : Int32) (A : ruA) {k29 : Int32 → Option (β)} (hk29 : ∀ (x2 : Int32), k29 x2 = some res → ruW E mmX6_filled d Q 29 [none, none, some (.int x2), none] [] A) : ∀ (n : Nat) (x2 : Int32) (x3 : Int32), fX6_filled_l4 x1 A k29 n x2 x3 = some res → ruW E mmX6_filled d Q 4 [some (rurf E 9), some (.int x1), some (.int x2), some (.int x3)] [] A := by
  intro n
  induction n with
  | zero =>
    intro x2 x3 h
    exact absurd h (by rw [fX6_filled_l4]; exact fun h => nomatch h)
  | succ n ih =>
    intro x2 x3 h
    rw [fX6_filled_l4] at h
    refine ru_iload_n ddX6_filled_4 rfl ?_
    refine ru_bipush (12 : Int32) ddX6_filled_5 rfl ?_
    refine ru_icmp_ge 29 ddX6_filled_7 (by decide) (fun hc => ?_) (fun hc => ?_)
    · rw [if_pos hc] at h
      refine ru_wk (L2 := [none, none, some (.int x2), none]) ⟨rfl, trivial⟩ ?_
      exact hk29 x2 h
    · rw [if_neg hc] at h
      refine ru_aload_n ddX6_filled_10 rfl ?_
      refine ru_iload_n ddX6_filled_11 rfl ?_
      refine ru_iload_n ddX6_filled_12 rfl ?_
      obtain ⟨v1, hv, h⟩ := ruB_inv h
      refine ru_callVi (as := [.int x1, .int x3]) (st := []) ddX6_filled_13 cvX6_41 rfl (wX6_choiceAt 1 (Nat.le_refl _) x1 x3 A hv) rfl (Nat.le_trans (m := 2) (by decide) hd) (Nat.le_of_ble_eq_true rfl) ?_
      clear hv
      refine ru_iconst (-1 : Int32) ddX6_filled_16 rfl ?_
      obtain ⟨v2, hq, h⟩ := ruB_inv h
      have J : ruW E mmX6_filled d Q 23 [some (rurf E 9), some (.int x1), some (.int v2), some (.int x3)] [] A := by
          refine ru_iinc (x3 + (1 : Int32)) ddX6_filled_23 (by decide) rfl rfl rfl rfl ?_
          refine ru_goto 4 ddX6_filled_26 (by decide) ?_
          exact ih v2 (x3 + (1 : Int32)) h
      replace h := hq
      clear hq
      refine ru_icmp_eq 23 ddX6_filled_17 (by decide) (fun hc => ?_) (fun hc => ?_)
      · rw [if_pos hc] at h
        refine ru_wk (L2 := [some (rurf E 9), some (.int x1), some (.int x2), some (.int x3)]) ⟨rfl, rfl, rfl, rfl, trivial⟩ ?_
        obtain rfl := ruS1 h
        exact J
      · rw [if_neg hc] at h
        refine ru_iinc (x2 + (1 : Int32)) ddX6_filled_20 (by decide) rfl rfl rfl rfl ?_
        refine ru_wk (L2 := [some (rurf E 9), some (.int x1), some (.int (x2 + (1 : Int32))), some (.int x3)]) ⟨rfl, rfl, rfl, rfl, trivial⟩ ?_
        obtain rfl := ruS1 h
        exact J
theorem wX6_filled {E : ruE} (d : Nat) (hd : 2 ≤ d) (x1 : Int32) (A : ruA) {r : Int32} (h : fX6_filled x1 A = some r) : ruC E mmX6_filled d [rurf E 9, .int x1] A (ruPr r A) := by
  refine ruC.of (L := [some (rurf E 9), some (.int x1), none, none]) (by decide) rfl (Nat.le_of_ble_eq_true rfl) rfl ?_
  unfold fX6_filled at h
  refine ru_iconst (0 : Int32) ddX6_filled_0 rfl ?_
  refine ru_istore_n ddX6_filled_1 (by decide) rfl rfl ?_
  refine ru_iconst (0 : Int32) ddX6_filled_2 rfl ?_
  refine ru_istore_n ddX6_filled_3 (by decide) rfl rfl ?_
  exact wX6_filled_l4 hd x1 A (fun v3 h => by
        refine ru_iload_n ddX6_filled_29 rfl ?_
        exact ru_iretP ddX6_filled_30 rfl h) ruF (0 : Int32) (0 : Int32) h
theorem wX6_rubbedAt {E : ruE} (d : Nat) (hd : 1 ≤ d) (x1 : Int32) (x2 : Int32) (A : ruA) {r : Int32} (h : fX6_rubbedAt x1 x2 A = some r) : ruC E mmX6_rubbedAt d [rurf E 9, .int x1, .int x2] A (ruPr r A) := by
  refine ruC.of (L := [some (rurf E 9), some (.int x1), some (.int x2)]) (by decide) rfl (Nat.le_of_ble_eq_true rfl) rfl ?_
  unfold fX6_rubbedAt at h
  refine ru_aload_n ddX6_rubbedAt_0 rfl ?_
  refine ru_getR (r := 13) ddX6_rubbedAt_1 flX6_22 rfl rfl ?_
  refine ru_iload_n ddX6_rubbedAt_4 rfl ?_
  refine ru_iconst (3 : Int32) ddX6_rubbedAt_5 rfl ?_
  refine ru_imul ddX6_rubbedAt_6 ?_
  refine ru_iload_n ddX6_rubbedAt_7 rfl ?_
  refine ru_iadd ddX6_rubbedAt_8 ?_
  obtain ⟨v1, hv, h⟩ := ruB_inv h
  refine ru_iald ddX6_rubbedAt_9 rfl hv ?_
  clear hv
  exact ru_iretP ddX6_rubbedAt_10 rfl h
theorem wX6_easierWrong_l6 {E : ruE} {d : Nat} (hd : 2 ≤ d) {β : Type} {Q : Option Value → ruA → Prop} {res : β} (x1 : Int32) (x2 : Int32) (A : ruA) {k45 : Int32 → Option (β)} (hk45 : ∀ (x5 : Int32), k45 x5 = some res → ruW E mmX6_easierWrong d Q 45 [none, none, none, none, none, some (.int x5), none] [] A) : ∀ (n : Nat) (x5 : Int32) (x6 : Int32), fX6_easierWrong_l6 x1 x2 A k45 n x5 x6 = some res → ruW E mmX6_easierWrong d Q 6 [some (rurf E 9), some (.int x1), some (.int x2), some (rurf E 3), some (rurf E 4), some (.int x5), some (.int x6)] [] A := by
  intro n
  induction n with
  | zero =>
    intro x5 x6 h
    exact absurd h (by rw [fX6_easierWrong_l6]; exact fun h => nomatch h)
  | succ n ih =>
    intro x5 x6 h
    rw [fX6_easierWrong_l6] at h
    refine ru_iload ddX6_easierWrong_6 rfl ?_
    refine ru_bipush (12 : Int32) ddX6_easierWrong_8 rfl ?_
    refine ru_icmp_ge 45 ddX6_easierWrong_10 (by decide) (fun hc => ?_) (fun hc => ?_)
    · rw [if_pos hc] at h
      refine ru_wk (L2 := [none, none, none, none, none, some (.int x5), none]) ⟨rfl, trivial⟩ ?_
      exact hk45 x5 h
    · rw [if_neg hc] at h
      refine ru_aload ddX6_easierWrong_13 rfl ?_
      refine ru_iload ddX6_easierWrong_15 rfl ?_
      obtain ⟨v1, hv, h⟩ := ruB_inv h
      refine ru_iald ddX6_easierWrong_17 rfl hv ?_
      clear hv
      refine ru_iload_n ddX6_easierWrong_18 rfl ?_
      obtain ⟨v2, hq, h⟩ := ruB_inv h
      have J : ruW E mmX6_easierWrong d Q 39 [some (rurf E 9), some (.int x1), some (.int x2), some (rurf E 3), some (rurf E 4), some (.int v2), some (.int x6)] [] A := by
          refine ru_iinc (x6 + (1 : Int32)) ddX6_easierWrong_39 (by decide) rfl rfl rfl rfl ?_
          refine ru_goto 6 ddX6_easierWrong_42 (by decide) ?_
          exact ih v2 (x6 + (1 : Int32)) h
      replace h := hq
      clear hq
      refine ru_icmp_ge 39 ddX6_easierWrong_19 (by decide) (fun hc => ?_) (fun hc => ?_)
      · rw [if_pos hc] at h
        refine ru_wk (L2 := [some (rurf E 9), some (.int x1), some (.int x2), some (rurf E 3), some (rurf E 4), some (.int x5), some (.int x6)]) ⟨rfl, rfl, rfl, rfl, rfl, rfl, rfl, trivial⟩ ?_
        obtain rfl := ruS1 h
        exact J
      · rw [if_neg hc] at h
        refine ru_aload_n ddX6_easierWrong_22 rfl ?_
        refine ru_iload_n ddX6_easierWrong_23 rfl ?_
        refine ru_iload ddX6_easierWrong_24 rfl ?_
        obtain ⟨v3, hv, h⟩ := ruB_inv h
        refine ru_callVi (as := [.int x1, .int x6]) (st := []) ddX6_easierWrong_26 cvX6_41 rfl (wX6_choiceAt 1 (Nat.le_refl _) x1 x6 A hv) rfl (Nat.le_trans (m := 2) (by decide) hd) (Nat.le_of_ble_eq_true rfl) ?_
        clear hv
        refine ru_aload_n ddX6_easierWrong_29 rfl ?_
        refine ru_iload ddX6_easierWrong_30 rfl ?_
        obtain ⟨v4, hv, h⟩ := ruB_inv h
        refine ru_iald ddX6_easierWrong_32 rfl hv ?_
        clear hv
        refine ru_icmp_eq 39 ddX6_easierWrong_33 (by decide) (fun hc => ?_) (fun hc => ?_)
        · rw [if_pos hc] at h
          refine ru_wk (L2 := [some (rurf E 9), some (.int x1), some (.int x2), some (rurf E 3), some (rurf E 4), some (.int x5), some (.int x6)]) ⟨rfl, rfl, rfl, rfl, rfl, rfl, rfl, trivial⟩ ?_
          obtain rfl := ruS1 h
          exact J
        · rw [if_neg hc] at h
          refine ru_iinc (x5 + (1 : Int32)) ddX6_easierWrong_36 (by decide) rfl rfl rfl rfl ?_
          refine ru_wk (L2 := [some (rurf E 9), some (.int x1), some (.int x2), some (rurf E 3), some (rurf E 4), some (.int (x5 + (1 : Int32))), some (.int x6)]) ⟨rfl, rfl, rfl, rfl, rfl, rfl, rfl, trivial⟩ ?_
          obtain rfl := ruS1 h
          exact J
theorem wX6_easierWrong {E : ruE} (d : Nat) (hd : 2 ≤ d) (x1 : Int32) (x2 : Int32) (A : ruA) {r : Int32} (h : fX6_easierWrong x1 x2 A = some r) : ruC E mmX6_easierWrong d [rurf E 9, .int x1, .int x2, rurf E 3, rurf E 4] A (ruPr r A) := by
  refine ruC.of (L := [some (rurf E 9), some (.int x1), some (.int x2), some (rurf E 3), some (rurf E 4), none, none]) (by decide) rfl (Nat.le_of_ble_eq_true rfl) rfl ?_
  unfold fX6_easierWrong at h
  refine ru_iconst (0 : Int32) ddX6_easierWrong_0 rfl ?_
  refine ru_istore ddX6_easierWrong_1 (by decide) rfl rfl ?_
  refine ru_iconst (0 : Int32) ddX6_easierWrong_3 rfl ?_
  refine ru_istore ddX6_easierWrong_4 (by decide) rfl rfl ?_
  exact wX6_easierWrong_l6 hd x1 x2 A (fun v5 h => by
        refine ru_iload ddX6_easierWrong_45 rfl ?_
        exact ru_iretP ddX6_easierWrong_47 rfl h) ruF (0 : Int32) (0 : Int32) h
theorem wX6_unfitPairs_l6 {E : ruE} {d : Nat} (hd : 3 ≤ d) {β : Type} {Q : Option Value → ruA → Prop} {res : β} (x1 : Int32) (A : ruA) {k49 : Int32 → Option (β)} (hk49 : ∀ (x4 : Int32), k49 x4 = some res → ruW E mmX6_unfitPairs d Q 49 [none, none, none, none, some (.int x4), none] [] A) : ∀ (n : Nat) (x4 : Int32) (x5 : Int32), fX6_unfitPairs_l6 x1 A k49 n x4 x5 = some res → ruW E mmX6_unfitPairs d Q 6 [some (rurf E 9), some (.int x1), some (rurf E 3), some (rurf E 4), some (.int x4), some (.int x5)] [] A := by
  intro n
  induction n with
  | zero =>
    intro x4 x5 h
    exact absurd h (by rw [fX6_unfitPairs_l6]; exact fun h => nomatch h)
  | succ n ih =>
    intro x4 x5 h
    rw [fX6_unfitPairs_l6] at h
    refine ru_iload ddX6_unfitPairs_6 rfl ?_
    refine ru_bipush (12 : Int32) ddX6_unfitPairs_8 rfl ?_
    refine ru_icmp_ge 49 ddX6_unfitPairs_10 (by decide) (fun hc => ?_) (fun hc => ?_)
    · rw [if_pos hc] at h
      refine ru_wk (L2 := [none, none, none, none, some (.int x4), none]) ⟨rfl, trivial⟩ ?_
      exact hk49 x4 h
    · rw [if_neg hc] at h
      refine ru_aload_n ddX6_unfitPairs_13 rfl ?_
      refine ru_iload_n ddX6_unfitPairs_14 rfl ?_
      refine ru_iload ddX6_unfitPairs_15 rfl ?_
      obtain ⟨v1, hv, h⟩ := ruB_inv h
      refine ru_callVi (as := [.int x1, .int x5]) (st := []) ddX6_unfitPairs_17 cvX6_41 rfl (wX6_choiceAt 1 (Nat.le_refl _) x1 x5 A hv) rfl (Nat.le_trans (m := 3) (by decide) hd) (Nat.le_of_ble_eq_true rfl) ?_
      clear hv
      refine ru_aload_n ddX6_unfitPairs_20 rfl ?_
      refine ru_iload ddX6_unfitPairs_21 rfl ?_
      obtain ⟨v2, hv, h⟩ := ruB_inv h
      refine ru_iald ddX6_unfitPairs_23 rfl hv ?_
      clear hv
      obtain ⟨v3, hq, h⟩ := ruB_inv h
      have J : ruW E mmX6_unfitPairs d Q 43 [some (rurf E 9), some (.int x1), some (rurf E 3), some (rurf E 4), some (.int v3), some (.int x5)] [] A := by
          refine ru_iinc (x5 + (1 : Int32)) ddX6_unfitPairs_43 (by decide) rfl rfl rfl rfl ?_
          refine ru_goto 6 ddX6_unfitPairs_46 (by decide) ?_
          exact ih v3 (x5 + (1 : Int32)) h
      replace h := hq
      clear hq
      refine ru_icmp_ne 43 ddX6_unfitPairs_24 (by decide) (fun hc => ?_) (fun hc => ?_)
      · rw [if_neg hc] at h
        refine ru_wk (L2 := [some (rurf E 9), some (.int x1), some (rurf E 3), some (rurf E 4), some (.int x4), some (.int x5)]) ⟨rfl, rfl, rfl, rfl, rfl, rfl, trivial⟩ ?_
        obtain rfl := ruS1 h
        exact J
      · rw [if_pos hc] at h
        refine ru_iload ddX6_unfitPairs_27 rfl ?_
        refine ru_aload_n ddX6_unfitPairs_29 rfl ?_
        refine ru_iload_n ddX6_unfitPairs_30 rfl ?_
        refine ru_aload_n ddX6_unfitPairs_31 rfl ?_
        refine ru_iload ddX6_unfitPairs_32 rfl ?_
        obtain ⟨v4, hv, h⟩ := ruB_inv h
        refine ru_iald ddX6_unfitPairs_34 rfl hv ?_
        clear hv
        refine ru_aload_n ddX6_unfitPairs_35 rfl ?_
        refine ru_aload_n ddX6_unfitPairs_36 rfl ?_
        obtain ⟨v5, hv, h⟩ := ruB_inv h
        refine ru_callVi (as := [.int x1, .int v4, rurf E 3, rurf E 4]) (st := [.int x4]) ddX6_unfitPairs_37 cvX6_55 rfl (wX6_easierWrong 2 (Nat.le_refl _) x1 v4 A hv) rfl (Nat.le_trans (m := 3) (by decide) hd) (Nat.le_of_ble_eq_true rfl) ?_
        clear hv
        refine ru_iadd ddX6_unfitPairs_40 ?_
        refine ru_istore ddX6_unfitPairs_41 (by decide) rfl rfl ?_
        refine ru_wk (L2 := [some (rurf E 9), some (.int x1), some (rurf E 3), some (rurf E 4), some (.int (x4 + v5)), some (.int x5)]) ⟨rfl, rfl, rfl, rfl, rfl, rfl, trivial⟩ ?_
        obtain rfl := ruS1 h
        exact J
theorem wX6_unfitPairs {E : ruE} (d : Nat) (hd : 3 ≤ d) (x1 : Int32) (A : ruA) {r : Int32} (h : fX6_unfitPairs x1 A = some r) : ruC E mmX6_unfitPairs d [rurf E 9, .int x1, rurf E 3, rurf E 4] A (ruPr r A) := by
  refine ruC.of (L := [some (rurf E 9), some (.int x1), some (rurf E 3), some (rurf E 4), none, none]) (by decide) rfl (Nat.le_of_ble_eq_true rfl) rfl ?_
  unfold fX6_unfitPairs at h
  refine ru_iconst (0 : Int32) ddX6_unfitPairs_0 rfl ?_
  refine ru_istore ddX6_unfitPairs_1 (by decide) rfl rfl ?_
  refine ru_iconst (0 : Int32) ddX6_unfitPairs_3 rfl ?_
  refine ru_istore ddX6_unfitPairs_4 (by decide) rfl rfl ?_
  exact wX6_unfitPairs_l6 hd x1 A (fun v6 h => by
        refine ru_iload ddX6_unfitPairs_49 rfl ?_
        exact ru_iretP ddX6_unfitPairs_51 rfl h) ruF (0 : Int32) (0 : Int32) h
theorem wX6_standingBy_l5 {E : ruE} {d : Nat} (hd : 2 ≤ d) {β : Type} {Q : Option Value → ruA → Prop} {res : β} (x1 : Int32) (x2 : Int32) (A : ruA) {k50 : Int32 → Option (β)} (hk50 : ∀ (x3 : Int32), k50 x3 = some res → ruW E mmX6_standingBy d Q 50 [none, none, none, some (.int x3), none] [] A) : ∀ (n : Nat) (x3 : Int32) (x4 : Int32), fX6_standingBy_l5 x1 x2 A k50 n x3 x4 = some res → ruW E mmX6_standingBy d Q 5 [some (rurf E 9), some (.int x1), some (.int x2), some (.int x3), some (.int x4)] [] A := by
  intro n
  induction n with
  | zero =>
    intro x3 x4 h
    exact absurd h (by rw [fX6_standingBy_l5]; exact fun h => nomatch h)
  | succ n ih =>
    intro x3 x4 h
    rw [fX6_standingBy_l5] at h
    refine ru_iload ddX6_standingBy_5 rfl ?_
    refine ru_bipush (12 : Int32) ddX6_standingBy_7 rfl ?_
    refine ru_icmp_ge 50 ddX6_standingBy_9 (by decide) (fun hc => ?_) (fun hc => ?_)
    · rw [if_pos hc] at h
      refine ru_wk (L2 := [none, none, none, some (.int x3), none]) ⟨rfl, trivial⟩ ?_
      exact hk50 x3 h
    · rw [if_neg hc] at h
      refine ru_aload_n ddX6_standingBy_12 rfl ?_
      refine ru_iload_n ddX6_standingBy_13 rfl ?_
      refine ru_iload ddX6_standingBy_14 rfl ?_
      obtain ⟨v1, hv, h⟩ := ruB_inv h
      refine ru_callVi (as := [.int x1, .int x4]) (st := []) ddX6_standingBy_16 cvX6_41 rfl (wX6_choiceAt 1 (Nat.le_refl _) x1 x4 A hv) rfl (Nat.le_trans (m := 2) (by decide) hd) (Nat.le_of_ble_eq_true rfl) ?_
      clear hv
      refine ru_iconst (-1 : Int32) ddX6_standingBy_19 rfl ?_
      obtain ⟨v2, hq, h⟩ := ruB_inv h
      have J : ruW E mmX6_standingBy d Q 44 [some (rurf E 9), some (.int x1), some (.int x2), some (.int v2), some (.int x4)] [] A := by
          refine ru_iinc (x4 + (1 : Int32)) ddX6_standingBy_44 (by decide) rfl rfl rfl rfl ?_
          refine ru_goto 5 ddX6_standingBy_47 (by decide) ?_
          exact ih v2 (x4 + (1 : Int32)) h
      replace h := hq
      clear hq
      refine ru_icmp_eq 44 ddX6_standingBy_20 (by decide) (fun hc => ?_) (fun hc => ?_)
      · rw [if_pos hc] at h
        refine ru_wk (L2 := [some (rurf E 9), some (.int x1), some (.int x2), some (.int x3), some (.int x4)]) ⟨rfl, rfl, rfl, rfl, rfl, trivial⟩ ?_
        obtain rfl := ruS1 h
        exact J
      · rw [if_neg hc] at h
        refine ru_underN ddX6_standingBy_23 uNX6_45 ?_
        refine ru_iload_n ddX6_standingBy_26 rfl ?_
        obtain ⟨v3, hv, h⟩ := ruB_inv h
        refine ru_uald ddX6_standingBy_27 hv ?_
        clear hv
        refine ru_aload_n ddX6_standingBy_28 rfl ?_
        refine ru_iload_n ddX6_standingBy_29 rfl ?_
        refine ru_iload ddX6_standingBy_30 rfl ?_
        obtain ⟨v4, hv, h⟩ := ruB_inv h
        refine ru_callVi (as := [.int x1, .int x4]) (st := [.int v3]) ddX6_standingBy_32 cvX6_48 rfl (wX6_kindAt 1 (Nat.le_refl _) x1 x4 A hv) rfl (Nat.le_trans (m := 2) (by decide) hd) (Nat.le_of_ble_eq_true rfl) ?_
        clear hv
        obtain ⟨v5, hv, h⟩ := ruB_inv h
        refine ru_callNi (as := [.int v3, .int v4]) (st := []) ddX6_standingBy_35 cnX6_51 (wX10_has 1 (Nat.le_refl _) v3 v4 A hv) rfl (Nat.le_trans (m := 2) (by decide) hd) (Nat.le_of_ble_eq_true rfl) ?_
        clear hv
        refine ru_if_eq 44 ddX6_standingBy_38 (by decide) (fun hc => ?_) (fun hc => ?_)
        · rw [if_pos hc] at h
          refine ru_wk (L2 := [some (rurf E 9), some (.int x1), some (.int x2), some (.int x3), some (.int x4)]) ⟨rfl, rfl, rfl, rfl, rfl, trivial⟩ ?_
          obtain rfl := ruS1 h
          exact J
        · rw [if_neg hc] at h
          refine ru_iinc (x3 + (1 : Int32)) ddX6_standingBy_41 (by decide) rfl rfl rfl rfl ?_
          refine ru_wk (L2 := [some (rurf E 9), some (.int x1), some (.int x2), some (.int (x3 + (1 : Int32))), some (.int x4)]) ⟨rfl, rfl, rfl, rfl, rfl, trivial⟩ ?_
          obtain rfl := ruS1 h
          exact J
theorem wX6_standingBy {E : ruE} (d : Nat) (hd : 2 ≤ d) (x1 : Int32) (x2 : Int32) (A : ruA) {r : Int32} (h : fX6_standingBy x1 x2 A = some r) : ruC E mmX6_standingBy d [rurf E 9, .int x1, .int x2] A (ruPr r A) := by
  refine ruC.of (L := [some (rurf E 9), some (.int x1), some (.int x2), none, none]) (by decide) rfl (Nat.le_of_ble_eq_true rfl) rfl ?_
  unfold fX6_standingBy at h
  refine ru_iconst (0 : Int32) ddX6_standingBy_0 rfl ?_
  refine ru_istore_n ddX6_standingBy_1 (by decide) rfl rfl ?_
  refine ru_iconst (0 : Int32) ddX6_standingBy_2 rfl ?_
  refine ru_istore ddX6_standingBy_3 (by decide) rfl rfl ?_
  exact wX6_standingBy_l5 hd x1 x2 A (fun v6 h => by
        refine ru_iload_n ddX6_standingBy_50 rfl ?_
        exact ru_iretP ddX6_standingBy_51 rfl h) ruF (0 : Int32) (0 : Int32) h
theorem wX10_sheetIs {E : ruE} (d : Nat) (hd : 4 ≤ d) (x1 : Int32) (x2 : Int32) (x3 : Int32) (A : ruA) {r : Int32} {B : ruA} (h : fX10_sheetIs x1 x2 x3 A = some (r, B)) : ruC E mmX10_sheetIs d [rurf E 0, .int x1, .int x2, .int x3] A (ruPr r B) := by
  refine ruC.of (L := [some (rurf E 0), some (.int x1), some (.int x2), some (.int x3), none]) (by decide) rfl (Nat.le_of_ble_eq_true rfl) rfl ?_
  unfold fX10_sheetIs at h
  refine ru_aload_n ddX10_sheetIs_0 rfl ?_
  refine ru_iload_n ddX10_sheetIs_1 rfl ?_
  obtain ⟨v1, hv, h⟩ := ruB_inv h
  refine ru_callVi (as := [.int x1]) (st := []) ddX10_sheetIs_2 cvX10_113 rfl (wX10_isChild 2 (Nat.le_refl _) x1 A hv) rfl (Nat.le_trans (m := 4) (by decide) hd) (Nat.le_of_ble_eq_true rfl) ?_
  clear hv
  refine ru_if_eq 25 ddX10_sheetIs_5 (by decide) (fun hc => ?_) (fun hc => ?_)
  · rw [if_pos hc] at h
    refine ru_aload_n ddX10_sheetIs_25 rfl ?_
    refine ru_ldc (v := (-1000001 : Int32)) ddX10_sheetIs_26 ckX10_81 ?_
    obtain ⟨v2, A3, hv, h⟩ := ruB2_inv h
    refine ru_callVi (as := [.int (-1000001 : Int32)]) (st := []) ddX10_sheetIs_28 cvX10_82 rfl (wX10_finding 2 (Nat.le_refl _) (-1000001 : Int32) A hv) rfl (Nat.le_trans (m := 4) (by decide) hd) (Nat.le_of_ble_eq_true rfl) ?_
    clear hv
    exact ru_iretW ddX10_sheetIs_31 rfl h
  · rw [if_neg hc] at h
    refine ru_iload_n ddX10_sheetIs_8 rfl ?_
    obtain ⟨v4, hv, h⟩ := ruB_inv h
    refine ru_callSi (as := [.int x2]) (st := []) ddX10_sheetIs_9 csX10_203 (wX10_isYear 2 (Nat.le_refl _) x2 A hv) rfl (Nat.le_trans (m := 4) (by decide) hd) (Nat.le_of_ble_eq_true rfl) ?_
    clear hv
    refine ru_if_eq 25 ddX10_sheetIs_12 (by decide) (fun hc => ?_) (fun hc => ?_)
    · rw [if_pos hc] at h
      refine ru_aload_n ddX10_sheetIs_25 rfl ?_
      refine ru_ldc (v := (-1000001 : Int32)) ddX10_sheetIs_26 ckX10_81 ?_
      obtain ⟨v5, A6, hv, h⟩ := ruB2_inv h
      refine ru_callVi (as := [.int (-1000001 : Int32)]) (st := []) ddX10_sheetIs_28 cvX10_82 rfl (wX10_finding 2 (Nat.le_refl _) (-1000001 : Int32) A hv) rfl (Nat.le_trans (m := 4) (by decide) hd) (Nat.le_of_ble_eq_true rfl) ?_
      clear hv
      exact ru_iretW ddX10_sheetIs_31 rfl h
    · rw [if_neg hc] at h
      refine ru_iload_n ddX10_sheetIs_15 rfl ?_
      refine ru_iconst (0 : Int32) ddX10_sheetIs_16 rfl ?_
      refine ru_bipush (6 : Int32) ddX10_sheetIs_17 rfl ?_
      obtain ⟨v7, hv, h⟩ := ruB_inv h
      refine ru_callSi (as := [.int x3, .int (0 : Int32), .int (6 : Int32)]) (st := []) ddX10_sheetIs_19 csX10_77 (wX10_isWithin 1 (Nat.le_refl _) x3 (0 : Int32) (6 : Int32) A hv) rfl (Nat.le_trans (m := 4) (by decide) hd) (Nat.le_of_ble_eq_true rfl) ?_
      clear hv
      refine ru_if_ne 32 ddX10_sheetIs_22 (by decide) (fun hc => ?_) (fun hc => ?_)
      · rw [if_neg hc] at h
        refine ru_iload_n ddX10_sheetIs_32 rfl ?_
        refine ru_iload_n ddX10_sheetIs_33 rfl ?_
        obtain ⟨v8, hv, h⟩ := ruB_inv h
        refine ru_callSi (as := [.int x1, .int x2]) (st := []) ddX10_sheetIs_34 csX10_206 (wX6_place 1 (Nat.le_refl _) x1 x2 A hv) rfl (Nat.le_trans (m := 4) (by decide) hd) (Nat.le_of_ble_eq_true rfl) ?_
        clear hv
        refine ru_istore ddX10_sheetIs_37 (by decide) rfl rfl ?_
        refine ru_aload_n ddX10_sheetIs_39 rfl ?_
        refine ru_getR (r := 9) ddX10_sheetIs_40 flX10_32 rfl rfl ?_
        refine ru_getR (r := 10) ddX10_sheetIs_43 flX10_146 rfl rfl ?_
        refine ru_iload ddX10_sheetIs_46 rfl ?_
        obtain ⟨v9, hv, h⟩ := ruB_inv h
        refine ru_zald ddX10_sheetIs_48 rfl hv ?_
        clear hv
        refine ru_if_ne 59 ddX10_sheetIs_49 (by decide) (fun hc => ?_) (fun hc => ?_)
        · rw [if_neg hc] at h
          refine ru_iload_n ddX10_sheetIs_59 rfl ?_
          by_cases hc0 : x3 = (0 : Int32)
          · rw [if_pos hc0] at h
            refine ru_tabC 100 ddX10_sheetIs_60 hc0 ⟨by decide, by decide, _, rfl, by decide⟩ ?_
            refine ru_aload_n ddX10_sheetIs_100 rfl ?_
            refine ru_getR (r := 9) ddX10_sheetIs_101 flX10_32 rfl rfl ?_
            refine ru_iload ddX10_sheetIs_104 rfl ?_
            refine ru_aload_n ddX10_sheetIs_106 rfl ?_
            refine ru_getR (r := 2) ddX10_sheetIs_107 flX10_27 rfl rfl ?_
            refine ru_getR (r := 3) ddX10_sheetIs_110 flX10_86 rfl rfl ?_
            obtain ⟨v10, hv, h⟩ := ruB_inv h
            refine ru_callVi (as := [.int v8, rurf E 3]) (st := []) ddX10_sheetIs_113 cvX10_158 rfl (wX6_rights 2 (Nat.le_refl _) v8 A hv) rfl (Nat.le_trans (m := 4) (by decide) hd) (Nat.le_of_ble_eq_true rfl) ?_
            clear hv
            exact ru_iretW ddX10_sheetIs_116 rfl h
          · rw [if_neg hc0] at h
            by_cases hc1 : x3 = (1 : Int32)
            · rw [if_pos hc1] at h
              refine ru_tabC 117 ddX10_sheetIs_60 hc1 ⟨by decide, by decide, _, rfl, by decide⟩ ?_
              refine ru_bipush (12 : Int32) ddX10_sheetIs_117 rfl ?_
              refine ru_aload_n ddX10_sheetIs_119 rfl ?_
              refine ru_getR (r := 9) ddX10_sheetIs_120 flX10_32 rfl rfl ?_
              refine ru_iload ddX10_sheetIs_123 rfl ?_
              obtain ⟨v11, hv, h⟩ := ruB_inv h
              refine ru_callVi (as := [.int v8]) (st := [.int (12 : Int32)]) ddX10_sheetIs_125 cvX10_212 rfl (wX6_filled 2 (Nat.le_refl _) v8 A hv) rfl (Nat.le_trans (m := 4) (by decide) hd) (Nat.le_of_ble_eq_true rfl) ?_
              clear hv
              refine ru_isub ddX10_sheetIs_128 ?_
              exact ru_iretW ddX10_sheetIs_129 rfl h
            · rw [if_neg hc1] at h
              by_cases hc2 : x3 = (2 : Int32)
              · rw [if_pos hc2] at h
                refine ru_tabC 130 ddX10_sheetIs_60 hc2 ⟨by decide, by decide, _, rfl, by decide⟩ ?_
                refine ru_aload_n ddX10_sheetIs_130 rfl ?_
                refine ru_getR (r := 9) ddX10_sheetIs_131 flX10_32 rfl rfl ?_
                refine ru_iload ddX10_sheetIs_134 rfl ?_
                refine ru_iconst (0 : Int32) ddX10_sheetIs_136 rfl ?_
                obtain ⟨v12, hv, h⟩ := ruB_inv h
                refine ru_callVi (as := [.int v8, .int (0 : Int32)]) (st := []) ddX10_sheetIs_137 cvX10_215 rfl (wX6_rubbedAt 1 (Nat.le_refl _) v8 (0 : Int32) A hv) rfl (Nat.le_trans (m := 4) (by decide) hd) (Nat.le_of_ble_eq_true rfl) ?_
                clear hv
                exact ru_iretW ddX10_sheetIs_140 rfl h
              · rw [if_neg hc2] at h
                by_cases hc3 : x3 = (3 : Int32)
                · rw [if_pos hc3] at h
                  refine ru_tabC 141 ddX10_sheetIs_60 hc3 ⟨by decide, by decide, _, rfl, by decide⟩ ?_
                  refine ru_aload_n ddX10_sheetIs_141 rfl ?_
                  refine ru_getR (r := 9) ddX10_sheetIs_142 flX10_32 rfl rfl ?_
                  refine ru_iload ddX10_sheetIs_145 rfl ?_
                  refine ru_iconst (1 : Int32) ddX10_sheetIs_147 rfl ?_
                  obtain ⟨v13, hv, h⟩ := ruB_inv h
                  refine ru_callVi (as := [.int v8, .int (1 : Int32)]) (st := []) ddX10_sheetIs_148 cvX10_215 rfl (wX6_rubbedAt 1 (Nat.le_refl _) v8 (1 : Int32) A hv) rfl (Nat.le_trans (m := 4) (by decide) hd) (Nat.le_of_ble_eq_true rfl) ?_
                  clear hv
                  exact ru_iretW ddX10_sheetIs_151 rfl h
                · rw [if_neg hc3] at h
                  by_cases hc4 : x3 = (4 : Int32)
                  · rw [if_pos hc4] at h
                    refine ru_tabC 152 ddX10_sheetIs_60 hc4 ⟨by decide, by decide, _, rfl, by decide⟩ ?_
                    refine ru_aload_n ddX10_sheetIs_152 rfl ?_
                    refine ru_getR (r := 9) ddX10_sheetIs_153 flX10_32 rfl rfl ?_
                    refine ru_iload ddX10_sheetIs_156 rfl ?_
                    refine ru_iconst (2 : Int32) ddX10_sheetIs_158 rfl ?_
                    obtain ⟨v14, hv, h⟩ := ruB_inv h
                    refine ru_callVi (as := [.int v8, .int (2 : Int32)]) (st := []) ddX10_sheetIs_159 cvX10_215 rfl (wX6_rubbedAt 1 (Nat.le_refl _) v8 (2 : Int32) A hv) rfl (Nat.le_trans (m := 4) (by decide) hd) (Nat.le_of_ble_eq_true rfl) ?_
                    clear hv
                    exact ru_iretW ddX10_sheetIs_162 rfl h
                  · rw [if_neg hc4] at h
                    by_cases hc5 : x3 = (5 : Int32)
                    · rw [if_pos hc5] at h
                      refine ru_tabC 163 ddX10_sheetIs_60 hc5 ⟨by decide, by decide, _, rfl, by decide⟩ ?_
                      refine ru_aload_n ddX10_sheetIs_163 rfl ?_
                      refine ru_getR (r := 9) ddX10_sheetIs_164 flX10_32 rfl rfl ?_
                      refine ru_iload ddX10_sheetIs_167 rfl ?_
                      refine ru_aload_n ddX10_sheetIs_169 rfl ?_
                      refine ru_getR (r := 2) ddX10_sheetIs_170 flX10_27 rfl rfl ?_
                      refine ru_getR (r := 3) ddX10_sheetIs_173 flX10_86 rfl rfl ?_
                      refine ru_aload_n ddX10_sheetIs_176 rfl ?_
                      refine ru_getR (r := 2) ddX10_sheetIs_177 flX10_27 rfl rfl ?_
                      refine ru_getR (r := 4) ddX10_sheetIs_180 flX10_91 rfl rfl ?_
                      obtain ⟨v15, hv, h⟩ := ruB_inv h
                      refine ru_callVi (as := [.int v8, rurf E 3, rurf E 4]) (st := []) ddX10_sheetIs_183 cvX10_218 rfl (wX6_unfitPairs 3 (Nat.le_refl _) v8 A hv) rfl (Nat.le_trans (m := 4) (by decide) hd) (Nat.le_of_ble_eq_true rfl) ?_
                      clear hv
                      exact ru_iretW ddX10_sheetIs_186 rfl h
                    · rw [if_neg hc5] at h
                      refine ru_tabD 187 ddX10_sheetIs_60 (fun j h9 => ?_) (by decide) ?_
                      · have h8 : j = 0 ∨ j = 1 ∨ j = 2 ∨ j = 3 ∨ j = 4 ∨ j = 5 := by omega
                        rcases h8 with rfl | rfl | rfl | rfl | rfl | rfl
                        · exact fun e => hc0 (e.trans (by decide))
                        · exact fun e => hc1 (e.trans (by decide))
                        · exact fun e => hc2 (e.trans (by decide))
                        · exact fun e => hc3 (e.trans (by decide))
                        · exact fun e => hc4 (e.trans (by decide))
                        · exact fun e => hc5 (e.trans (by decide))
                      refine ru_aload_n ddX10_sheetIs_187 rfl ?_
                      refine ru_getR (r := 9) ddX10_sheetIs_188 flX10_32 rfl rfl ?_
                      refine ru_iload ddX10_sheetIs_191 rfl ?_
                      refine ru_iconst (5 : Int32) ddX10_sheetIs_193 rfl ?_
                      obtain ⟨v16, hv, h⟩ := ruB_inv h
                      refine ru_callVi (as := [.int v8, .int (5 : Int32)]) (st := []) ddX10_sheetIs_194 cvX10_222 rfl (wX6_standingBy 2 (Nat.le_refl _) v8 (5 : Int32) A hv) rfl (Nat.le_trans (m := 4) (by decide) hd) (Nat.le_of_ble_eq_true rfl) ?_
                      clear hv
                      exact ru_iretW ddX10_sheetIs_197 rfl h
        · rw [if_pos hc] at h
          refine ru_aload_n ddX10_sheetIs_52 rfl ?_
          refine ru_ldc (v := (-1000004 : Int32)) ddX10_sheetIs_53 ckX10_202 ?_
          obtain ⟨v17, A18, hv, h⟩ := ruB2_inv h
          refine ru_callVi (as := [.int (-1000004 : Int32)]) (st := []) ddX10_sheetIs_55 cvX10_82 rfl (wX10_finding 2 (Nat.le_refl _) (-1000004 : Int32) A hv) rfl (Nat.le_trans (m := 4) (by decide) hd) (Nat.le_of_ble_eq_true rfl) ?_
          clear hv
          exact ru_iretW ddX10_sheetIs_58 rfl h
      · rw [if_pos hc] at h
        refine ru_aload_n ddX10_sheetIs_25 rfl ?_
        refine ru_ldc (v := (-1000001 : Int32)) ddX10_sheetIs_26 ckX10_81 ?_
        obtain ⟨v19, A20, hv, h⟩ := ruB2_inv h
        refine ru_callVi (as := [.int (-1000001 : Int32)]) (st := []) ddX10_sheetIs_28 cvX10_82 rfl (wX10_finding 2 (Nat.le_refl _) (-1000001 : Int32) A hv) rfl (Nat.le_trans (m := 4) (by decide) hd) (Nat.le_of_ble_eq_true rfl) ?_
        clear hv
        exact ru_iretW ddX10_sheetIs_31 rfl h
theorem wX10_ownWeight {E : ruE} (d : Nat) (hd : 1 ≤ d) (x0 : Int32) (A : ruA) {r : Int32} (h : fX10_ownWeight x0 = some r) : ruC E mmX10_ownWeight d [.int x0] A (ruPr r A) := by
  refine ruC.of (L := [some (.int x0)]) (by decide) rfl (Nat.le_of_ble_eq_true rfl) rfl ?_
  unfold fX10_ownWeight at h
  refine ru_iload_n ddX10_ownWeight_0 rfl ?_
  refine ru_iconst (2 : Int32) ddX10_ownWeight_1 rfl ?_
  refine ru_iadd ddX10_ownWeight_2 ?_
  exact ru_iretP ddX10_ownWeight_3 rfl h
theorem wX10_putWeight {E : ruE} (d : Nat) (hd : 1 ≤ d) (x0 : Int32) (A : ruA) {r : Int32} (h : fX10_putWeight x0 = some r) : ruC E mmX10_putWeight d [.int x0] A (ruPr r A) := by
  refine ruC.of (L := [some (.int x0)]) (by decide) rfl (Nat.le_of_ble_eq_true rfl) rfl ?_
  unfold fX10_putWeight at h
  refine ru_iload_n ddX10_putWeight_0 rfl ?_
  refine ru_ineg ddX10_putWeight_1 ?_
  exact ru_iretP ddX10_putWeight_2 rfl h
theorem wX10_weight {E : ruE} (d : Nat) (hd : 3 ≤ d) (x1 : Int32) (x2 : Int32) (A : ruA) {r : Int32} {B : ruA} (h : fX10_weight x1 x2 A = some (r, B)) : ruC E mmX10_weight d [rurf E 0, .int x1, .int x2] A (ruPr r B) := by
  refine ruC.of (L := [some (rurf E 0), some (.int x1), some (.int x2)]) (by decide) rfl (Nat.le_of_ble_eq_true rfl) rfl ?_
  unfold fX10_weight at h
  refine ru_iload_n ddX10_weight_0 rfl ?_
  obtain ⟨v1, hv, h⟩ := ruB_inv h
  refine ru_callSi (as := [.int x1]) (st := []) ddX10_weight_1 csX10_184 (wX10_isKind 2 (Nat.le_refl _) x1 A hv) rfl (Nat.le_trans (m := 3) (by decide) hd) (Nat.le_of_ble_eq_true rfl) ?_
  clear hv
  refine ru_if_ne 14 ddX10_weight_4 (by decide) (fun hc => ?_) (fun hc => ?_)
  · rw [if_neg hc] at h
    refine ru_iload_n ddX10_weight_14 rfl ?_
    by_cases hc0 : x1 = (1 : Int32)
    · rw [if_pos hc0] at h
      refine ru_tabC 56 ddX10_weight_15 hc0 ⟨by decide, by decide, _, rfl, by decide⟩ ?_
      refine ru_iload_n ddX10_weight_56 rfl ?_
      obtain ⟨v2, hv, h⟩ := ruB_inv h
      refine ru_callSi (as := [.int x2]) (st := []) ddX10_weight_57 csX10_225 (wX10_ownWeight 1 (Nat.le_refl _) x2 A hv) rfl (Nat.le_trans (m := 3) (by decide) hd) (Nat.le_of_ble_eq_true rfl) ?_
      clear hv
      exact ru_iretW ddX10_weight_60 rfl h
    · rw [if_neg hc0] at h
      by_cases hc1 : x1 = (2 : Int32)
      · rw [if_pos hc1] at h
        refine ru_tabC 61 ddX10_weight_15 hc1 ⟨by decide, by decide, _, rfl, by decide⟩ ?_
        refine ru_iconst (3 : Int32) ddX10_weight_61 rfl ?_
        refine ru_iload_n ddX10_weight_62 rfl ?_
        obtain ⟨v3, hv, h⟩ := ruB_inv h
        refine ru_callSi (as := [.int x2]) (st := [.int (3 : Int32)]) ddX10_weight_63 csX10_225 (wX10_ownWeight 1 (Nat.le_refl _) x2 A hv) rfl (Nat.le_trans (m := 3) (by decide) hd) (Nat.le_of_ble_eq_true rfl) ?_
        clear hv
        refine ru_imul ddX10_weight_66 ?_
        exact ru_iretW ddX10_weight_67 rfl h
      · rw [if_neg hc1] at h
        by_cases hc2 : x1 = (3 : Int32)
        · rw [if_pos hc2] at h
          refine ru_tabC 68 ddX10_weight_15 hc2 ⟨by decide, by decide, _, rfl, by decide⟩ ?_
          refine ru_iload_n ddX10_weight_68 rfl ?_
          refine ru_iconst (2 : Int32) ddX10_weight_69 rfl ?_
          refine ru_idiv ddX10_weight_70 (by decide) ?_
          exact ru_iretW ddX10_weight_71 rfl h
        · rw [if_neg hc2] at h
          by_cases hc3 : x1 = (4 : Int32)
          · rw [if_pos hc3] at h
            refine ru_tabC 72 ddX10_weight_15 hc3 ⟨by decide, by decide, _, rfl, by decide⟩ ?_
            refine ru_iload_n ddX10_weight_72 rfl ?_
            refine ru_iconst (1 : Int32) ddX10_weight_73 rfl ?_
            refine ru_isub ddX10_weight_74 ?_
            exact ru_iretW ddX10_weight_75 rfl h
          · rw [if_neg hc3] at h
            by_cases hc4 : x1 = (5 : Int32)
            · rw [if_pos hc4] at h
              refine ru_tabC 76 ddX10_weight_15 hc4 ⟨by decide, by decide, _, rfl, by decide⟩ ?_
              refine ru_iload_n ddX10_weight_76 rfl ?_
              obtain ⟨v4, hv, h⟩ := ruB_inv h
              refine ru_callSi (as := [.int x2]) (st := []) ddX10_weight_77 csX10_228 (wX10_putWeight 1 (Nat.le_refl _) x2 A hv) rfl (Nat.le_trans (m := 3) (by decide) hd) (Nat.le_of_ble_eq_true rfl) ?_
              clear hv
              exact ru_iretW ddX10_weight_80 rfl h
            · rw [if_neg hc4] at h
              by_cases hc5 : x1 = (6 : Int32)
              · rw [if_pos hc5] at h
                refine ru_tabC 81 ddX10_weight_15 hc5 ⟨by decide, by decide, _, rfl, by decide⟩ ?_
                refine ru_iload_n ddX10_weight_81 rfl ?_
                obtain ⟨v5, hv, h⟩ := ruB_inv h
                refine ru_callSi (as := [.int x2]) (st := []) ddX10_weight_82 csX10_228 (wX10_putWeight 1 (Nat.le_refl _) x2 A hv) rfl (Nat.le_trans (m := 3) (by decide) hd) (Nat.le_of_ble_eq_true rfl) ?_
                clear hv
                refine ru_iload_n ddX10_weight_85 rfl ?_
                refine ru_isub ddX10_weight_86 ?_
                exact ru_iretW ddX10_weight_87 rfl h
              · rw [if_neg hc5] at h
                by_cases hc6 : x1 = (7 : Int32)
                · rw [if_pos hc6] at h
                  refine ru_tabC 88 ddX10_weight_15 hc6 ⟨by decide, by decide, _, rfl, by decide⟩ ?_
                  refine ru_iload_n ddX10_weight_88 rfl ?_
                  refine ru_iconst (1 : Int32) ddX10_weight_89 rfl ?_
                  refine ru_isub ddX10_weight_90 ?_
                  obtain ⟨v6, hv, h⟩ := ruB_inv h
                  refine ru_callSi (as := [.int (x2 - (1 : Int32))]) (st := []) ddX10_weight_91 csX10_225 (wX10_ownWeight 1 (Nat.le_refl _) (x2 - (1 : Int32)) A hv) rfl (Nat.le_trans (m := 3) (by decide) hd) (Nat.le_of_ble_eq_true rfl) ?_
                  clear hv
                  exact ru_iretW ddX10_weight_94 rfl h
                · rw [if_neg hc6] at h
                  refine ru_tabD 95 ddX10_weight_15 (fun j h9 => ?_) (by decide) ?_
                  · have h8 : j = 0 ∨ j = 1 ∨ j = 2 ∨ j = 3 ∨ j = 4 ∨ j = 5 ∨ j = 6 := by omega
                    rcases h8 with rfl | rfl | rfl | rfl | rfl | rfl | rfl
                    · exact fun e => hc0 (e.trans (by decide))
                    · exact fun e => hc1 (e.trans (by decide))
                    · exact fun e => hc2 (e.trans (by decide))
                    · exact fun e => hc3 (e.trans (by decide))
                    · exact fun e => hc4 (e.trans (by decide))
                    · exact fun e => hc5 (e.trans (by decide))
                    · exact fun e => hc6 (e.trans (by decide))
                  refine ru_iload_n ddX10_weight_95 rfl ?_
                  exact ru_iretW ddX10_weight_96 rfl h
  · rw [if_pos hc] at h
    refine ru_aload_n ddX10_weight_7 rfl ?_
    refine ru_ldc (v := (-1000001 : Int32)) ddX10_weight_8 ckX10_81 ?_
    obtain ⟨v7, A8, hv, h⟩ := ruB2_inv h
    refine ru_callVi (as := [.int (-1000001 : Int32)]) (st := []) ddX10_weight_10 cvX10_82 rfl (wX10_finding 2 (Nat.le_refl _) (-1000001 : Int32) A hv) rfl (Nat.le_trans (m := 3) (by decide) hd) (Nat.le_of_ble_eq_true rfl) ?_
    clear hv
    exact ru_iretW ddX10_weight_13 rfl h
