theorem wX10_status_l32 {E : ruE} {d : Nat} (hd : 3 ≤ d) {β : Type} {Q : Option Value → ruA → Prop} {res : β} (A : ruA) {k53 : Int32 → Option (β)} (hk53 : ∀ (x2 : Int32), k53 x2 = some res → ruW E mmX10_status d Q 53 [none, none, some (.int x2), none] [] A) : ∀ (n : Nat) (x2 : Int32) (x3 : Int32), fX10_status_l32 A k53 n x2 x3 = some res → ruW E mmX10_status d Q 32 [some (rurf E 0), none, some (.int x2), some (.int x3)] [] A := by
  intro n
  induction n with
  | zero =>
    intro x2 x3 h
    exact absurd h (by rw [fX10_status_l32]; exact fun h => nomatch h)
  | succ n ih =>
    intro x2 x3 h
    rw [fX10_status_l32] at h
    refine ru_iload_n ddX10_status_32 rfl ?_
    refine ru_bipush (7 : Int32) ddX10_status_33 rfl ?_
    refine ru_icmp_ge 53 ddX10_status_35 (by decide) (fun hc => ?_) (fun hc => ?_)
    · rw [if_pos hc] at h
      refine ru_wk (L2 := [none, none, some (.int x2), none]) ⟨rfl, trivial⟩ ?_
      exact hk53 x2 h
    · rw [if_neg hc] at h
      refine ru_iload_n ddX10_status_38 rfl ?_
      refine ru_aload_n ddX10_status_39 rfl ?_
      refine ru_getR (r := 82) ddX10_status_40 flX10_67 rfl rfl ?_
      refine ru_iload_n ddX10_status_43 rfl ?_
      obtain ⟨v2, hv, h⟩ := ruB_inv h
      refine ru_iald ddX10_status_44 rfl hv ?_
      clear hv
      refine ru_iadd ddX10_status_45 ?_
      refine ru_istore_n ddX10_status_46 (by decide) rfl rfl ?_
      refine ru_iinc (x3 + (1 : Int32)) ddX10_status_47 (by decide) rfl rfl rfl rfl ?_
      refine ru_goto 32 ddX10_status_50 (by decide) ?_
      exact ih (x2 + v2) (x3 + (1 : Int32)) h
theorem wX10_status {E : ruE} (d : Nat) (hd : 3 ≤ d) (x1 : Int32) (A : ruA) {r : Int32} {B : ruA} (h : fX10_status x1 A = some (r, B)) : ruC E mmX10_status d [rurf E 0, .int x1] A (ruPr r B) := by
  refine ruC.of (L := [some (rurf E 0), some (.int x1), none, none]) (by decide) rfl (Nat.le_of_ble_eq_true rfl) rfl ?_
  unfold fX10_status at h
  refine ru_iload_n ddX10_status_0 rfl ?_
  refine ru_iconst (-1 : Int32) ddX10_status_1 rfl ?_
  refine ru_bipush (6 : Int32) ddX10_status_2 rfl ?_
  obtain ⟨v1, hv, h⟩ := ruB_inv h
  refine ru_callSi (as := [.int x1, .int (-1 : Int32), .int (6 : Int32)]) (st := []) ddX10_status_4 csX10_77 (wX10_isWithin 1 (Nat.le_refl _) x1 (-1 : Int32) (6 : Int32) A hv) rfl (Nat.le_trans (m := 3) (by decide) hd) (Nat.le_of_ble_eq_true rfl) ?_
  clear hv
  refine ru_if_ne 17 ddX10_status_7 (by decide) (fun hc => ?_) (fun hc => ?_)
  · rw [if_neg hc] at h
    refine ru_iload_n ddX10_status_17 rfl ?_
    refine ru_if_lt 28 ddX10_status_18 (by decide) (fun hc => ?_) (fun hc => ?_)
    · rw [if_pos hc] at h
      refine ru_iconst (0 : Int32) ddX10_status_28 rfl ?_
      refine ru_istore_n ddX10_status_29 (by decide) rfl rfl ?_
      refine ru_iconst (0 : Int32) ddX10_status_30 rfl ?_
      refine ru_istore_n ddX10_status_31 (by decide) rfl rfl ?_
      refine ru_wk (L2 := [some (rurf E 0), none, some (.int (0 : Int32)), some (.int (0 : Int32))]) ⟨rfl, rfl, rfl, trivial⟩ ?_
      exact wX10_status_l32 hd A (fun v3 h => by
            refine ru_iload_n ddX10_status_53 rfl ?_
            exact ru_iretW ddX10_status_54 rfl h) ruF (0 : Int32) (0 : Int32) h
    · rw [if_neg hc] at h
      refine ru_aload_n ddX10_status_21 rfl ?_
      refine ru_getR (r := 82) ddX10_status_22 flX10_67 rfl rfl ?_
      refine ru_iload_n ddX10_status_25 rfl ?_
      obtain ⟨v4, hv, h⟩ := ruB_inv h
      refine ru_iald ddX10_status_26 rfl hv ?_
      clear hv
      exact ru_iretW ddX10_status_27 rfl h
  · rw [if_pos hc] at h
    refine ru_aload_n ddX10_status_10 rfl ?_
    refine ru_ldc (v := (-1000001 : Int32)) ddX10_status_11 ckX10_81 ?_
    obtain ⟨v5, A6, hv, h⟩ := ruB2_inv h
    refine ru_callVi (as := [.int (-1000001 : Int32)]) (st := []) ddX10_status_13 cvX10_82 rfl (wX10_finding 2 (Nat.le_refl _) (-1000001 : Int32) A hv) rfl (Nat.le_trans (m := 3) (by decide) hd) (Nat.le_of_ble_eq_true rfl) ?_
    clear hv
    exact ru_iretW ddX10_status_16 rfl h
theorem wX11_within {E : ruE} (d : Nat) (hd : 1 ≤ d) (x0 : Int32) (x1 : Int32) (x2 : Int32) (A : ruA) {r : Int32} (h : fX11_within x0 x1 x2 = some r) : ruC E mmX11_within d [.int x0, .int x1, .int x2] A (ruPr r A) := by
  refine ruC.of (L := [some (.int x0), some (.int x1), some (.int x2)]) (by decide) rfl (Nat.le_of_ble_eq_true rfl) rfl ?_
  unfold fX11_within at h
  refine ru_iload_n ddX11_within_0 rfl ?_
  refine ru_iload_n ddX11_within_1 rfl ?_
  refine ru_icmp_lt 14 ddX11_within_2 (by decide) (fun hc => ?_) (fun hc => ?_)
  · rw [if_pos hc] at h
    refine ru_iconst (0 : Int32) ddX11_within_14 rfl ?_
    exact ru_zretP ddX11_within_15 rfl (Or.inl rfl) h
  · rw [if_neg hc] at h
    refine ru_iload_n ddX11_within_5 rfl ?_
    refine ru_iload_n ddX11_within_6 rfl ?_
    refine ru_icmp_gt 14 ddX11_within_7 (by decide) (fun hc => ?_) (fun hc => ?_)
    · rw [if_pos hc] at h
      refine ru_iconst (0 : Int32) ddX11_within_14 rfl ?_
      exact ru_zretP ddX11_within_15 rfl (Or.inl rfl) h
    · rw [if_neg hc] at h
      refine ru_iconst (1 : Int32) ddX11_within_10 rfl ?_
      refine ru_goto 15 ddX11_within_11 (by decide) ?_
      exact ru_zretP ddX11_within_15 rfl (Or.inr rfl) h
theorem wX11_isQuestion {E : ruE} (d : Nat) (hd : 2 ≤ d) (x0 : Int32) (A : ruA) {r : Int32} (h : fX11_isQuestion x0 = some r) : ruC E mmX11_isQuestion d [.int x0] A (ruPr r A) := by
  refine ruC.of (L := [some (.int x0)]) (by decide) rfl (Nat.le_of_ble_eq_true rfl) rfl ?_
  unfold fX11_isQuestion at h
  refine ru_iload_n ddX11_isQuestion_0 rfl ?_
  refine ru_iconst (0 : Int32) ddX11_isQuestion_1 rfl ?_
  refine ru_bipush (11 : Int32) ddX11_isQuestion_2 rfl ?_
  obtain ⟨v1, hv, h⟩ := ruB_inv h
  refine ru_callSi (as := [.int x0, .int (0 : Int32), .int (11 : Int32)]) (st := []) ddX11_isQuestion_4 csX11_66 (wX11_within 1 (Nat.le_refl _) x0 (0 : Int32) (11 : Int32) A hv) rfl (Nat.le_trans (m := 2) (by decide) hd) (Nat.le_of_ble_eq_true rfl) ?_
  clear hv
  obtain ⟨_, hz, h⟩ := ruB_inv h
  exact ru_zretP ddX11_isQuestion_7 rfl (rubz_eq hz) h
theorem wX11_finding {E : ruE} (d : Nat) (hd : 1 ≤ d) (x1 : Int32) (A : ruA) {r : Int32} {B : ruA} (h : fX11_finding x1 A = some (r, B)) : ruC E mmX11_finding d [rurf E 83, .int x1] A (ruPr r B) := by
  refine ruC.of (L := [some (rurf E 83), some (.int x1)]) (by decide) rfl (Nat.le_of_ble_eq_true rfl) rfl ?_
  unfold fX11_finding at h
  refine ru_aload_n ddX11_finding_0 rfl ?_
  refine ru_getR (r := 86) ddX11_finding_1 flX11_16 rfl rfl ?_
  refine ru_ldc (v := (-1000001 : Int32)) ddX11_finding_4 ckX11_65 ?_
  refine ru_iload_n ddX11_finding_6 rfl ?_
  refine ru_isub ddX11_finding_7 ?_
  refine ru_dup2 ddX11_finding_8 rfl rfl ?_
  obtain ⟨v1, hv, h⟩ := ruB_inv h
  refine ru_iald ddX11_finding_9 rfl hv ?_
  clear hv
  refine ru_iconst (1 : Int32) ddX11_finding_10 rfl ?_
  refine ru_iadd ddX11_finding_11 ?_
  obtain ⟨A2, hv, h⟩ := ruB_inv h
  refine ru_iast ddX11_finding_12 rfl hv ?_
  clear hv
  refine ru_iload_n ddX11_finding_13 rfl ?_
  exact ru_iretW ddX11_finding_14 rfl h
theorem wX11_question {E : ruE} (d : Nat) (hd : 3 ≤ d) (x1 : Int32) (x2 : Int32) (x3 : Int32) (A : ruA) {r : Int32} {B : ruA} (h : fX11_question x1 x2 x3 A = some (r, B)) : ruC E mmX11_question d [rurf E 83, .int x1, .int x2, .int x3] A (ruPr r B) := by
  refine ruC.of (L := [some (rurf E 83), some (.int x1), some (.int x2), some (.int x3), none, none]) (by decide) rfl (Nat.le_of_ble_eq_true rfl) rfl ?_
  unfold fX11_question at h
  refine ru_iload_n ddX11_question_0 rfl ?_
  obtain ⟨v1, hv, h⟩ := ruB_inv h
  refine ru_callSi (as := [.int x1]) (st := []) ddX11_question_1 csX11_78 (wX11_isQuestion 2 (Nat.le_refl _) x1 A hv) rfl (Nat.le_trans (m := 3) (by decide) hd) (Nat.le_of_ble_eq_true rfl) ?_
  clear hv
  refine ru_if_eq 34 ddX11_question_4 (by decide) (fun hc => ?_) (fun hc => ?_)
  · rw [if_pos hc] at h
    refine ru_aload_n ddX11_question_34 rfl ?_
    refine ru_ldc (v := (-1000001 : Int32)) ddX11_question_35 ckX11_65 ?_
    obtain ⟨v2, A3, hv, h⟩ := ruB2_inv h
    refine ru_callVi (as := [.int (-1000001 : Int32)]) (st := []) ddX11_question_37 cvX11_82 rfl (wX11_finding 1 (Nat.le_refl _) (-1000001 : Int32) A hv) rfl (Nat.le_trans (m := 3) (by decide) hd) (Nat.le_of_ble_eq_true rfl) ?_
    clear hv
    exact ru_iretW ddX11_question_40 rfl h
  · rw [if_neg hc] at h
    refine ru_iload_n ddX11_question_7 rfl ?_
    refine ru_iconst (0 : Int32) ddX11_question_8 rfl ?_
    refine ru_iconst (1 : Int32) ddX11_question_9 rfl ?_
    obtain ⟨v4, hv, h⟩ := ruB_inv h
    refine ru_callSi (as := [.int x2, .int (0 : Int32), .int (1 : Int32)]) (st := []) ddX11_question_10 csX11_66 (wX11_within 1 (Nat.le_refl _) x2 (0 : Int32) (1 : Int32) A hv) rfl (Nat.le_trans (m := 3) (by decide) hd) (Nat.le_of_ble_eq_true rfl) ?_
    clear hv
    refine ru_if_eq 34 ddX11_question_13 (by decide) (fun hc => ?_) (fun hc => ?_)
    · rw [if_pos hc] at h
      refine ru_aload_n ddX11_question_34 rfl ?_
      refine ru_ldc (v := (-1000001 : Int32)) ddX11_question_35 ckX11_65 ?_
      obtain ⟨v5, A6, hv, h⟩ := ruB2_inv h
      refine ru_callVi (as := [.int (-1000001 : Int32)]) (st := []) ddX11_question_37 cvX11_82 rfl (wX11_finding 1 (Nat.le_refl _) (-1000001 : Int32) A hv) rfl (Nat.le_trans (m := 3) (by decide) hd) (Nat.le_of_ble_eq_true rfl) ?_
      clear hv
      exact ru_iretW ddX11_question_40 rfl h
    · rw [if_neg hc] at h
      refine ru_iload_n ddX11_question_16 rfl ?_
      refine ru_iconst (0 : Int32) ddX11_question_17 rfl ?_
      refine ru_iload_n ddX11_question_18 rfl ?_
      obtain ⟨v7, hq, h⟩ := ruB_inv h
      have J : ruW E mmX11_question d (ruPr r B) 28 [some (rurf E 83), some (.int x1), some (.int x2), some (.int x3), none, none] [.int v7, .int (0 : Int32), .int x3] A := by
          obtain ⟨v8, hv, h⟩ := ruB_inv h
          refine ru_callSi (as := [.int x3, .int (0 : Int32), .int v7]) (st := []) ddX11_question_28 csX11_66 (wX11_within 1 (Nat.le_refl _) x3 (0 : Int32) v7 A hv) rfl (Nat.le_trans (m := 3) (by decide) hd) (Nat.le_of_ble_eq_true rfl) ?_
          clear hv
          refine ru_if_ne 41 ddX11_question_31 (by decide) (fun hc => ?_) (fun hc => ?_)
          · rw [if_neg hc] at h
            refine ru_iload_n ddX11_question_41 rfl ?_
            obtain ⟨v9, hq, h⟩ := ruB_inv h
            have J : ruW E mmX11_question d (ruPr r B) 52 [some (rurf E 83), some (.int x1), none, some (.int x3), none, none] [.int v9] A := by
                refine ru_iload_n ddX11_question_52 rfl ?_
                refine ru_iadd ddX11_question_53 ?_
                refine ru_istore ddX11_question_54 (by decide) rfl rfl ?_
                refine ru_aload_n ddX11_question_56 rfl ?_
                refine ru_getR (r := 84) ddX11_question_57 flX11_9 rfl rfl ?_
                refine ru_iload ddX11_question_60 rfl ?_
                obtain ⟨v10, hv, h⟩ := ruB_inv h
                refine ru_iald ddX11_question_62 rfl hv ?_
                clear hv
                refine ru_istore ddX11_question_63 (by decide) rfl rfl ?_
                refine ru_aload_n ddX11_question_65 rfl ?_
                refine ru_getR (r := 84) ddX11_question_66 flX11_9 rfl rfl ?_
                refine ru_iload ddX11_question_69 rfl ?_
                refine ru_iload_n ddX11_question_71 rfl ?_
                obtain ⟨A11, hv, h⟩ := ruB_inv h
                refine ru_iast ddX11_question_72 rfl hv ?_
                clear hv
                refine ru_iload ddX11_question_73 rfl ?_
                exact ru_iretW ddX11_question_75 rfl h
            replace h := hq
            clear hq
            refine ru_if_ne 50 ddX11_question_42 (by decide) (fun hc => ?_) (fun hc => ?_)
            · rw [if_neg hc] at h
              refine ru_bipush (20 : Int32) ddX11_question_50 rfl ?_
              refine ru_wk (L2 := [some (rurf E 83), some (.int x1), none, some (.int x3), none, none]) ⟨rfl, rfl, rfl, trivial⟩ ?_
              obtain rfl := ruS1 h
              exact J
            · rw [if_pos hc] at h
              refine ru_bipush (8 : Int32) ddX11_question_45 rfl ?_
              refine ru_goto 52 ddX11_question_47 (by decide) ?_
              refine ru_wk (L2 := [some (rurf E 83), some (.int x1), none, some (.int x3), none, none]) ⟨rfl, rfl, rfl, trivial⟩ ?_
              obtain rfl := ruS1 h
              exact J
          · rw [if_pos hc] at h
            refine ru_aload_n ddX11_question_34 rfl ?_
            refine ru_ldc (v := (-1000001 : Int32)) ddX11_question_35 ckX11_65 ?_
            obtain ⟨v12, A13, hv, h⟩ := ruB2_inv h
            refine ru_callVi (as := [.int (-1000001 : Int32)]) (st := []) ddX11_question_37 cvX11_82 rfl (wX11_finding 1 (Nat.le_refl _) (-1000001 : Int32) A hv) rfl (Nat.le_trans (m := 3) (by decide) hd) (Nat.le_of_ble_eq_true rfl) ?_
            clear hv
            exact ru_iretW ddX11_question_40 rfl h
      replace h := hq
      clear hq
      refine ru_if_ne 26 ddX11_question_19 (by decide) (fun hc => ?_) (fun hc => ?_)
      · rw [if_neg hc] at h
        refine ru_bipush (9 : Int32) ddX11_question_26 rfl ?_
        obtain rfl := ruS1 h
        exact J
      · rw [if_pos hc] at h
        refine ru_iconst (3 : Int32) ddX11_question_22 rfl ?_
        refine ru_goto 28 ddX11_question_23 (by decide) ?_
        obtain rfl := ruS1 h
        exact J
theorem wX11_room {E : ruE} (d : Nat) (hd : 2 ≤ d) (A : ruA) {r : Int32} {B : ruA} (h : fX11_room A = some (r, B)) : ruC E mmX11_room d [rurf E 83] A (ruPr r B) := by
  refine ruC.of (L := [some (rurf E 83)]) (by decide) rfl (Nat.le_of_ble_eq_true rfl) rfl ?_
  unfold fX11_room at h
  refine ru_aload_n ddX11_room_0 rfl ?_
  refine ru_getR (r := 84) ddX11_room_1 flX11_9 rfl rfl ?_
  refine ru_iconst (1 : Int32) ddX11_room_4 rfl ?_
  obtain ⟨v1, hv, h⟩ := ruB_inv h
  refine ru_iald ddX11_room_5 rfl hv ?_
  clear hv
  refine ru_bipush (6 : Int32) ddX11_room_6 rfl ?_
  refine ru_icmp_ne 18 ddX11_room_8 (by decide) (fun hc => ?_) (fun hc => ?_)
  · rw [if_neg hc] at h
    refine ru_aload_n ddX11_room_18 rfl ?_
    refine ru_getR (r := 84) ddX11_room_19 flX11_9 rfl rfl ?_
    refine ru_iconst (1 : Int32) ddX11_room_22 rfl ?_
    refine ru_dup2 ddX11_room_23 rfl rfl ?_
    obtain ⟨v2, hv, h⟩ := ruB_inv h
    refine ru_iald ddX11_room_24 rfl hv ?_
    clear hv
    refine ru_iconst (1 : Int32) ddX11_room_25 rfl ?_
    refine ru_iadd ddX11_room_26 ?_
    obtain ⟨A3, hv, h⟩ := ruB_inv h
    refine ru_iast ddX11_room_27 rfl hv ?_
    clear hv
    refine ru_aload_n ddX11_room_28 rfl ?_
    refine ru_getR (r := 84) ddX11_room_29 flX11_9 rfl rfl ?_
    refine ru_iconst (1 : Int32) ddX11_room_32 rfl ?_
    obtain ⟨v4, hv, h⟩ := ruB_inv h
    refine ru_iald ddX11_room_33 rfl hv ?_
    clear hv
    refine ru_iconst (1 : Int32) ddX11_room_34 rfl ?_
    refine ru_isub ddX11_room_35 ?_
    exact ru_iretW ddX11_room_36 rfl h
  · rw [if_pos hc] at h
    refine ru_aload_n ddX11_room_11 rfl ?_
    refine ru_ldc (v := (-1000002 : Int32)) ddX11_room_12 ckX11_86 ?_
    obtain ⟨v5, A6, hv, h⟩ := ruB2_inv h
    refine ru_callVi (as := [.int (-1000002 : Int32)]) (st := []) ddX11_room_14 cvX11_82 rfl (wX11_finding 1 (Nat.le_refl _) (-1000002 : Int32) A hv) rfl (Nat.le_trans (m := 2) (by decide) hd) (Nat.le_of_ble_eq_true rfl) ?_
    clear hv
    exact ru_iretW ddX11_room_17 rfl h
theorem wX11_is {E : ruE} (d : Nat) (hd : 2 ≤ d) (x1 : Int32) (x2 : Int32) (A : ruA) {r : Int32} (h : fX11_is x1 x2 A = some r) : ruC E mmX11_is d [rurf E 83, .int x1, .int x2] A (ruPr r A) := by
  refine ruC.of (L := [some (rurf E 83), some (.int x1), some (.int x2)]) (by decide) rfl (Nat.le_of_ble_eq_true rfl) rfl ?_
  unfold fX11_is at h
  refine ru_iload_n ddX11_is_0 rfl ?_
  refine ru_iconst (0 : Int32) ddX11_is_1 rfl ?_
  refine ru_aload_n ddX11_is_2 rfl ?_
  refine ru_getR (r := 84) ddX11_is_3 flX11_9 rfl rfl ?_
  refine ru_iload_n ddX11_is_6 rfl ?_
  obtain ⟨v1, hv, h⟩ := ruB_inv h
  refine ru_iald ddX11_is_7 rfl hv ?_
  clear hv
  refine ru_iconst (1 : Int32) ddX11_is_8 rfl ?_
  refine ru_isub ddX11_is_9 ?_
  obtain ⟨v2, hv, h⟩ := ruB_inv h
  refine ru_callSi (as := [.int x1, .int (0 : Int32), .int (v1 - (1 : Int32))]) (st := []) ddX11_is_10 csX11_66 (wX11_within 1 (Nat.le_refl _) x1 (0 : Int32) (v1 - (1 : Int32)) A hv) rfl (Nat.le_trans (m := 2) (by decide) hd) (Nat.le_of_ble_eq_true rfl) ?_
  clear hv
  obtain ⟨_, hz, h⟩ := ruB_inv h
  exact ru_zretP ddX11_is_13 rfl (rubz_eq hz) h
theorem wX11_childOf {E : ruE} (d : Nat) (hd : 1 ≤ d) (x1 : Int32) (x2 : Int32) (A : ruA) {r : Int32} (h : fX11_childOf x1 x2 A = some r) : ruC E mmX11_childOf d [rurf E 83, .int x1, .int x2] A (ruPr r A) := by
  refine ruC.of (L := [some (rurf E 83), some (.int x1), some (.int x2)]) (by decide) rfl (Nat.le_of_ble_eq_true rfl) rfl ?_
  unfold fX11_childOf at h
  refine ru_aload_n ddX11_childOf_0 rfl ?_
  refine ru_getR (r := 84) ddX11_childOf_1 flX11_9 rfl rfl ?_
  refine ru_bipush (32 : Int32) ddX11_childOf_4 rfl ?_
  refine ru_iconst (4 : Int32) ddX11_childOf_6 rfl ?_
  refine ru_iload_n ddX11_childOf_7 rfl ?_
  refine ru_imul ddX11_childOf_8 ?_
  refine ru_iadd ddX11_childOf_9 ?_
  refine ru_iload_n ddX11_childOf_10 rfl ?_
  refine ru_iadd ddX11_childOf_11 ?_
  obtain ⟨v1, hv, h⟩ := ruB_inv h
  refine ru_iald ddX11_childOf_12 rfl hv ?_
  clear hv
  exact ru_iretP ddX11_childOf_13 rfl h
theorem wX11_sheetAt {E : ruE} (d : Nat) (hd : 1 ≤ d) (x0 : Int32) (x1 : Int32) (A : ruA) {r : Int32} (h : fX11_sheetAt x0 x1 = some r) : ruC E mmX11_sheetAt d [.int x0, .int x1] A (ruPr r A) := by
  refine ruC.of (L := [some (.int x0), some (.int x1)]) (by decide) rfl (Nat.le_of_ble_eq_true rfl) rfl ?_
  unfold fX11_sheetAt at h
  refine ru_sipush (128 : Int32) ddX11_sheetAt_0 rfl ?_
  refine ru_bipush (28 : Int32) ddX11_sheetAt_3 rfl ?_
  refine ru_bipush (6 : Int32) ddX11_sheetAt_5 rfl ?_
  refine ru_iload_n ddX11_sheetAt_7 rfl ?_
  refine ru_imul ddX11_sheetAt_8 ?_
  refine ru_iload_n ddX11_sheetAt_9 rfl ?_
  refine ru_iadd ddX11_sheetAt_10 ?_
  refine ru_imul ddX11_sheetAt_11 ?_
  refine ru_iadd ddX11_sheetAt_12 ?_
  exact ru_iretP ddX11_sheetAt_13 rfl h
theorem wX11_child_l28 {E : ruE} {d : Nat} (hd : 3 ≤ d) {β : Type} {Q : Option Value → ruA → Prop} {res : β} (x1 : Int32) (x2 : Int32) (A : ruA) {k58 : Option (β)} {k71 : Option (β)} (hk58 : k58 = some res → ruW E mmX11_child d Q 58 [some (rurf E 83), none, none, none, none] [] A) (hk71 : k71 = some res → ruW E mmX11_child d Q 71 [some (rurf E 83), some (.int x1), some (.int x2), none, none] [] A) : ∀ (n : Nat) (x3 : Int32), fX11_child_l28 x1 x2 A k58 k71 n x3 = some res → ruW E mmX11_child d Q 28 [some (rurf E 83), some (.int x1), some (.int x2), some (.int x3), none] [] A := by
  intro n
  induction n with
  | zero =>
    intro x3 h
    exact absurd h (by rw [fX11_child_l28]; exact fun h => nomatch h)
  | succ n ih =>
    intro x3 h
    rw [fX11_child_l28] at h
    refine ru_iload_n ddX11_child_28 rfl ?_
    refine ru_aload_n ddX11_child_29 rfl ?_
    refine ru_getR (r := 84) ddX11_child_30 flX11_9 rfl rfl ?_
    refine ru_iconst (2 : Int32) ddX11_child_33 rfl ?_
    obtain ⟨v5, hv, h⟩ := ruB_inv h
    refine ru_iald ddX11_child_34 rfl hv ?_
    clear hv
    refine ru_icmp_ge 71 ddX11_child_35 (by decide) (fun hc => ?_) (fun hc => ?_)
    · rw [if_pos hc] at h
      refine ru_wk (L2 := [some (rurf E 83), some (.int x1), some (.int x2), none, none]) ⟨rfl, rfl, rfl, trivial⟩ ?_
      exact hk71 h
    · rw [if_neg hc] at h
      refine ru_aload_n ddX11_child_38 rfl ?_
      refine ru_iload_n ddX11_child_39 rfl ?_
      refine ru_iconst (0 : Int32) ddX11_child_40 rfl ?_
      obtain ⟨v6, hv, h⟩ := ruB_inv h
      refine ru_callVi (as := [.int x3, .int (0 : Int32)]) (st := []) ddX11_child_41 cvX11_91 rfl (wX11_childOf 1 (Nat.le_refl _) x3 (0 : Int32) A hv) rfl (Nat.le_trans (m := 3) (by decide) hd) (Nat.le_of_ble_eq_true rfl) ?_
      clear hv
      refine ru_iload_n ddX11_child_44 rfl ?_
      refine ru_icmp_ne 65 ddX11_child_45 (by decide) (fun hc => ?_) (fun hc => ?_)
      · rw [if_neg hc] at h
        refine ru_iinc (x3 + (1 : Int32)) ddX11_child_65 (by decide) rfl rfl rfl rfl ?_
        refine ru_goto 28 ddX11_child_68 (by decide) ?_
        exact ih (x3 + (1 : Int32)) h
      · rw [if_pos hc] at h
        refine ru_aload_n ddX11_child_48 rfl ?_
        refine ru_iload_n ddX11_child_49 rfl ?_
        refine ru_iconst (1 : Int32) ddX11_child_50 rfl ?_
        obtain ⟨v7, hv, h⟩ := ruB_inv h
        refine ru_callVi (as := [.int x3, .int (1 : Int32)]) (st := []) ddX11_child_51 cvX11_91 rfl (wX11_childOf 1 (Nat.le_refl _) x3 (1 : Int32) A hv) rfl (Nat.le_trans (m := 3) (by decide) hd) (Nat.le_of_ble_eq_true rfl) ?_
        clear hv
        refine ru_iload_n ddX11_child_54 rfl ?_
        refine ru_icmp_ne 65 ddX11_child_55 (by decide) (fun hc => ?_) (fun hc => ?_)
        · rw [if_neg hc] at h
          refine ru_iinc (x3 + (1 : Int32)) ddX11_child_65 (by decide) rfl rfl rfl rfl ?_
          refine ru_goto 28 ddX11_child_68 (by decide) ?_
          exact ih (x3 + (1 : Int32)) h
        · rw [if_pos hc] at h
          refine ru_wk (L2 := [some (rurf E 83), none, none, none, none]) ⟨rfl, trivial⟩ ?_
          exact hk58 h
theorem wX11_child_l148 {E : ruE} {d : Nat} (hd : 3 ≤ d) {β : Type} {Q : Option Value → ruA → Prop} {res : β} (x3 : Int32) {k173 : ruA → Option (β)} (hk173 : ∀ (A : ruA), k173 A = some res → ruW E mmX11_child d Q 173 [some (rurf E 83), none, none, some (.int x3), none] [] A) : ∀ (n : Nat) (x4 : Int32) (A : ruA), fX11_child_l148 x3 k173 n x4 A = some res → ruW E mmX11_child d Q 148 [some (rurf E 83), none, none, some (.int x3), some (.int x4)] [] A := by
  intro n
  induction n with
  | zero =>
    intro x4 A h
    exact absurd h (by rw [fX11_child_l148]; exact fun h => nomatch h)
  | succ n ih =>
    intro x4 A h
    rw [fX11_child_l148] at h
    refine ru_iload ddX11_child_148 rfl ?_
    refine ru_bipush (6 : Int32) ddX11_child_150 rfl ?_
    refine ru_icmp_ge 173 ddX11_child_152 (by decide) (fun hc => ?_) (fun hc => ?_)
    · rw [if_pos hc] at h
      refine ru_wk (L2 := [some (rurf E 83), none, none, some (.int x3), none]) ⟨rfl, rfl, trivial⟩ ?_
      exact hk173 A h
    · rw [if_neg hc] at h
      refine ru_aload_n ddX11_child_155 rfl ?_
      refine ru_getR (r := 84) ddX11_child_156 flX11_9 rfl rfl ?_
      refine ru_iload_n ddX11_child_159 rfl ?_
      refine ru_iload ddX11_child_160 rfl ?_
      obtain ⟨v15, hv, h⟩ := ruB_inv h
      refine ru_callSi (as := [.int x3, .int x4]) (st := [rurf E 84]) ddX11_child_162 csX11_70 (wX11_sheetAt 1 (Nat.le_refl _) x3 x4 A hv) rfl (Nat.le_trans (m := 3) (by decide) hd) (Nat.le_of_ble_eq_true rfl) ?_
      clear hv
      refine ru_iconst (0 : Int32) ddX11_child_165 rfl ?_
      obtain ⟨A16, hv, h⟩ := ruB_inv h
      refine ru_iast ddX11_child_166 rfl hv ?_
      clear hv
      refine ru_iinc (x4 + (1 : Int32)) ddX11_child_167 (by decide) rfl rfl rfl rfl ?_
      refine ru_goto 148 ddX11_child_170 (by decide) ?_
      exact ih (x4 + (1 : Int32)) A16 h
theorem wX11_child {E : ruE} (d : Nat) (hd : 3 ≤ d) (x1 : Int32) (x2 : Int32) (A : ruA) {r : Int32} {B : ruA} (h : fX11_child x1 x2 A = some (r, B)) : ruC E mmX11_child d [rurf E 83, .int x1, .int x2] A (ruPr r B) := by
  refine ruC.of (L := [some (rurf E 83), some (.int x1), some (.int x2), none, none]) (by decide) rfl (Nat.le_of_ble_eq_true rfl) rfl ?_
  unfold fX11_child at h
  refine ru_aload_n ddX11_child_0 rfl ?_
  refine ru_iload_n ddX11_child_1 rfl ?_
  refine ru_iconst (1 : Int32) ddX11_child_2 rfl ?_
  obtain ⟨v1, hv, h⟩ := ruB_inv h
  refine ru_callVi (as := [.int x1, .int (1 : Int32)]) (st := []) ddX11_child_3 cvX11_87 rfl (wX11_is 2 (Nat.le_refl _) x1 (1 : Int32) A hv) rfl (Nat.le_trans (m := 3) (by decide) hd) (Nat.le_of_ble_eq_true rfl) ?_
  clear hv
  refine ru_if_eq 19 ddX11_child_6 (by decide) (fun hc => ?_) (fun hc => ?_)
  · rw [if_pos hc] at h
    refine ru_aload_n ddX11_child_19 rfl ?_
    refine ru_ldc (v := (-1000001 : Int32)) ddX11_child_20 ckX11_65 ?_
    obtain ⟨v2, A3, hv, h⟩ := ruB2_inv h
    refine ru_callVi (as := [.int (-1000001 : Int32)]) (st := []) ddX11_child_22 cvX11_82 rfl (wX11_finding 1 (Nat.le_refl _) (-1000001 : Int32) A hv) rfl (Nat.le_trans (m := 3) (by decide) hd) (Nat.le_of_ble_eq_true rfl) ?_
    clear hv
    exact ru_iretW ddX11_child_25 rfl h
  · rw [if_neg hc] at h
    refine ru_iload_n ddX11_child_9 rfl ?_
    refine ru_iconst (0 : Int32) ddX11_child_10 rfl ?_
    refine ru_bipush (19 : Int32) ddX11_child_11 rfl ?_
    obtain ⟨v4, hv, h⟩ := ruB_inv h
    refine ru_callSi (as := [.int x2, .int (0 : Int32), .int (19 : Int32)]) (st := []) ddX11_child_13 csX11_66 (wX11_within 1 (Nat.le_refl _) x2 (0 : Int32) (19 : Int32) A hv) rfl (Nat.le_trans (m := 3) (by decide) hd) (Nat.le_of_ble_eq_true rfl) ?_
    clear hv
    refine ru_if_ne 26 ddX11_child_16 (by decide) (fun hc => ?_) (fun hc => ?_)
    · rw [if_neg hc] at h
      refine ru_iconst (0 : Int32) ddX11_child_26 rfl ?_
      refine ru_istore_n ddX11_child_27 (by decide) rfl rfl ?_
      exact wX11_child_l28 hd x1 x2 A (fun h => by
            refine ru_aload_n ddX11_child_58 rfl ?_
            refine ru_ldc (v := (-1000005 : Int32)) ddX11_child_59 ckX11_94 ?_
            obtain ⟨v8, A9, hv, h⟩ := ruB2_inv h
            refine ru_callVi (as := [.int (-1000005 : Int32)]) (st := []) ddX11_child_61 cvX11_82 rfl (wX11_finding 1 (Nat.le_refl _) (-1000005 : Int32) A hv) rfl (Nat.le_trans (m := 3) (by decide) hd) (Nat.le_of_ble_eq_true rfl) ?_
            clear hv
            exact ru_iretW ddX11_child_64 rfl h) (fun h => by
            refine ru_aload_n ddX11_child_71 rfl ?_
            refine ru_getR (r := 84) ddX11_child_72 flX11_9 rfl rfl ?_
            refine ru_iconst (2 : Int32) ddX11_child_75 rfl ?_
            obtain ⟨v10, hv, h⟩ := ruB_inv h
            refine ru_iald ddX11_child_76 rfl hv ?_
            clear hv
            refine ru_istore_n ddX11_child_77 (by decide) rfl rfl ?_
            refine ru_iload_n ddX11_child_78 rfl ?_
            refine ru_bipush (24 : Int32) ddX11_child_79 rfl ?_
            refine ru_icmp_ne 91 ddX11_child_81 (by decide) (fun hc => ?_) (fun hc => ?_)
            · rw [if_neg hc] at h
              refine ru_aload_n ddX11_child_91 rfl ?_
              refine ru_getR (r := 84) ddX11_child_92 flX11_9 rfl rfl ?_
              refine ru_bipush (32 : Int32) ddX11_child_95 rfl ?_
              refine ru_iconst (4 : Int32) ddX11_child_97 rfl ?_
              refine ru_iload_n ddX11_child_98 rfl ?_
              refine ru_imul ddX11_child_99 ?_
              refine ru_iadd ddX11_child_100 ?_
              refine ru_iload_n ddX11_child_101 rfl ?_
              obtain ⟨A11, hv, h⟩ := ruB_inv h
              refine ru_iast ddX11_child_102 rfl hv ?_
              clear hv
              refine ru_aload_n ddX11_child_103 rfl ?_
              refine ru_getR (r := 84) ddX11_child_104 flX11_9 rfl rfl ?_
              refine ru_bipush (32 : Int32) ddX11_child_107 rfl ?_
              refine ru_iconst (4 : Int32) ddX11_child_109 rfl ?_
              refine ru_iload_n ddX11_child_110 rfl ?_
              refine ru_imul ddX11_child_111 ?_
              refine ru_iadd ddX11_child_112 ?_
              refine ru_iconst (1 : Int32) ddX11_child_113 rfl ?_
              refine ru_iadd ddX11_child_114 ?_
              refine ru_iload_n ddX11_child_115 rfl ?_
              obtain ⟨A12, hv, h⟩ := ruB_inv h
              refine ru_iast ddX11_child_116 rfl hv ?_
              clear hv
              refine ru_aload_n ddX11_child_117 rfl ?_
              refine ru_getR (r := 84) ddX11_child_118 flX11_9 rfl rfl ?_
              refine ru_bipush (32 : Int32) ddX11_child_121 rfl ?_
              refine ru_iconst (4 : Int32) ddX11_child_123 rfl ?_
              refine ru_iload_n ddX11_child_124 rfl ?_
              refine ru_imul ddX11_child_125 ?_
              refine ru_iadd ddX11_child_126 ?_
              refine ru_iconst (2 : Int32) ddX11_child_127 rfl ?_
              refine ru_iadd ddX11_child_128 ?_
              refine ru_iconst (0 : Int32) ddX11_child_129 rfl ?_
              obtain ⟨A13, hv, h⟩ := ruB_inv h
              refine ru_iast ddX11_child_130 rfl hv ?_
              clear hv
              refine ru_aload_n ddX11_child_131 rfl ?_
              refine ru_getR (r := 84) ddX11_child_132 flX11_9 rfl rfl ?_
              refine ru_bipush (32 : Int32) ddX11_child_135 rfl ?_
              refine ru_iconst (4 : Int32) ddX11_child_137 rfl ?_
              refine ru_iload_n ddX11_child_138 rfl ?_
              refine ru_imul ddX11_child_139 ?_
              refine ru_iadd ddX11_child_140 ?_
              refine ru_iconst (3 : Int32) ddX11_child_141 rfl ?_
              refine ru_iadd ddX11_child_142 ?_
              refine ru_iconst (0 : Int32) ddX11_child_143 rfl ?_
              obtain ⟨A14, hv, h⟩ := ruB_inv h
              refine ru_iast ddX11_child_144 rfl hv ?_
              clear hv
              refine ru_iconst (0 : Int32) ddX11_child_145 rfl ?_
              refine ru_istore ddX11_child_146 (by decide) rfl rfl ?_
              refine ru_wk (L2 := [some (rurf E 83), none, none, some (.int v10), some (.int (0 : Int32))]) ⟨rfl, rfl, rfl, trivial⟩ ?_
              exact wX11_child_l148 hd v10 (fun A17 h => by
                    refine ru_aload_n ddX11_child_173 rfl ?_
                    refine ru_getR (r := 84) ddX11_child_174 flX11_9 rfl rfl ?_
                    refine ru_iconst (2 : Int32) ddX11_child_177 rfl ?_
                    refine ru_dup2 ddX11_child_178 rfl rfl ?_
                    obtain ⟨v18, hv, h⟩ := ruB_inv h
                    refine ru_iald ddX11_child_179 rfl hv ?_
                    clear hv
                    refine ru_iconst (1 : Int32) ddX11_child_180 rfl ?_
                    refine ru_iadd ddX11_child_181 ?_
                    obtain ⟨A19, hv, h⟩ := ruB_inv h
                    refine ru_iast ddX11_child_182 rfl hv ?_
                    clear hv
                    refine ru_iload_n ddX11_child_183 rfl ?_
                    exact ru_iretW ddX11_child_184 rfl h) ruF (0 : Int32) A14 h
            · rw [if_pos hc] at h
              refine ru_aload_n ddX11_child_84 rfl ?_
              refine ru_ldc (v := (-1000002 : Int32)) ddX11_child_85 ckX11_86 ?_
              obtain ⟨v20, A21, hv, h⟩ := ruB2_inv h
              refine ru_callVi (as := [.int (-1000002 : Int32)]) (st := []) ddX11_child_87 cvX11_82 rfl (wX11_finding 1 (Nat.le_refl _) (-1000002 : Int32) A hv) rfl (Nat.le_trans (m := 3) (by decide) hd) (Nat.le_of_ble_eq_true rfl) ?_
              clear hv
              exact ru_iretW ddX11_child_90 rfl h) ruF (0 : Int32) h
    · rw [if_pos hc] at h
      refine ru_aload_n ddX11_child_19 rfl ?_
      refine ru_ldc (v := (-1000001 : Int32)) ddX11_child_20 ckX11_65 ?_
      obtain ⟨v22, A23, hv, h⟩ := ruB2_inv h
      refine ru_callVi (as := [.int (-1000001 : Int32)]) (st := []) ddX11_child_22 cvX11_82 rfl (wX11_finding 1 (Nat.le_refl _) (-1000001 : Int32) A hv) rfl (Nat.le_trans (m := 3) (by decide) hd) (Nat.le_of_ble_eq_true rfl) ?_
      clear hv
      exact ru_iretW ddX11_child_25 rfl h
theorem wX11_has {E : ruE} (d : Nat) (hd : 1 ≤ d) (x0 : Int32) (x1 : Int32) (A : ruA) {r : Int32} (h : fX11_has x0 x1 = some r) : ruC E mmX11_has d [.int x0, .int x1] A (ruPr r A) := by
  refine ruC.of (L := [some (.int x0), some (.int x1)]) (by decide) rfl (Nat.le_of_ble_eq_true rfl) rfl ?_
  unfold fX11_has at h
  refine ru_iload_n ddX11_has_0 rfl ?_
  refine ru_iload_n ddX11_has_1 rfl ?_
  refine ru_ishr ddX11_has_2 ?_
  refine ru_iconst (1 : Int32) ddX11_has_3 rfl ?_
  refine ru_iand ddX11_has_4 ?_
  refine ru_iconst (1 : Int32) ddX11_has_5 rfl ?_
  refine ru_icmp_ne 13 ddX11_has_6 (by decide) (fun hc => ?_) (fun hc => ?_)
  · rw [if_neg hc] at h
    refine ru_iconst (0 : Int32) ddX11_has_13 rfl ?_
    exact ru_zretP ddX11_has_14 rfl (Or.inl rfl) h
  · rw [if_pos hc] at h
    refine ru_iconst (1 : Int32) ddX11_has_9 rfl ?_
    refine ru_goto 14 ddX11_has_10 (by decide) ?_
    exact ru_zretP ddX11_has_14 rfl (Or.inr rfl) h
theorem wX11_learn {E : ruE} (d : Nat) (hd : 3 ≤ d) (x1 : Int32) (x2 : Int32) (x3 : Int32) (A : ruA) {r : Int32} {B : ruA} (h : fX11_learn x1 x2 x3 A = some (r, B)) : ruC E mmX11_learn d [rurf E 83, .int x1, .int x2, .int x3] A (ruPr r B) := by
  refine ruC.of (L := [some (rurf E 83), some (.int x1), some (.int x2), some (.int x3), none, none]) (by decide) rfl (Nat.le_of_ble_eq_true rfl) rfl ?_
  unfold fX11_learn at h
  refine ru_aload_n ddX11_learn_0 rfl ?_
  refine ru_iload_n ddX11_learn_1 rfl ?_
  refine ru_iconst (2 : Int32) ddX11_learn_2 rfl ?_
  obtain ⟨v1, hv, h⟩ := ruB_inv h
  refine ru_callVi (as := [.int x1, .int (2 : Int32)]) (st := []) ddX11_learn_3 cvX11_87 rfl (wX11_is 2 (Nat.le_refl _) x1 (2 : Int32) A hv) rfl (Nat.le_trans (m := 3) (by decide) hd) (Nat.le_of_ble_eq_true rfl) ?_
  clear hv
  refine ru_if_eq 16 ddX11_learn_6 (by decide) (fun hc => ?_) (fun hc => ?_)
  · rw [if_pos hc] at h
    refine ru_aload_n ddX11_learn_16 rfl ?_
    refine ru_ldc (v := (-1000001 : Int32)) ddX11_learn_17 ckX11_65 ?_
    obtain ⟨v2, A3, hv, h⟩ := ruB2_inv h
    refine ru_callVi (as := [.int (-1000001 : Int32)]) (st := []) ddX11_learn_19 cvX11_82 rfl (wX11_finding 1 (Nat.le_refl _) (-1000001 : Int32) A hv) rfl (Nat.le_trans (m := 3) (by decide) hd) (Nat.le_of_ble_eq_true rfl) ?_
    clear hv
    exact ru_iretW ddX11_learn_22 rfl h
  · rw [if_neg hc] at h
    refine ru_iload_n ddX11_learn_9 rfl ?_
    obtain ⟨v4, hv, h⟩ := ruB_inv h
    refine ru_callSi (as := [.int x2]) (st := []) ddX11_learn_10 csX11_78 (wX11_isQuestion 2 (Nat.le_refl _) x2 A hv) rfl (Nat.le_trans (m := 3) (by decide) hd) (Nat.le_of_ble_eq_true rfl) ?_
    clear hv
    refine ru_if_ne 23 ddX11_learn_13 (by decide) (fun hc => ?_) (fun hc => ?_)
    · rw [if_neg hc] at h
      refine ru_bipush (32 : Int32) ddX11_learn_23 rfl ?_
      refine ru_iconst (4 : Int32) ddX11_learn_25 rfl ?_
      refine ru_iload_n ddX11_learn_26 rfl ?_
      refine ru_imul ddX11_learn_27 ?_
      refine ru_iadd ddX11_learn_28 ?_
      refine ru_istore ddX11_learn_29 (by decide) rfl rfl ?_
      refine ru_aload_n ddX11_learn_31 rfl ?_
      refine ru_getR (r := 84) ddX11_learn_32 flX11_9 rfl rfl ?_
      refine ru_iload ddX11_learn_35 rfl ?_
      refine ru_iconst (2 : Int32) ddX11_learn_37 rfl ?_
      refine ru_iadd ddX11_learn_38 ?_
      obtain ⟨v5, hv, h⟩ := ruB_inv h
      refine ru_iald ddX11_learn_39 rfl hv ?_
      clear hv
      refine ru_iload_n ddX11_learn_40 rfl ?_
      obtain ⟨v6, hv, h⟩ := ruB_inv h
      refine ru_callSi (as := [.int v5, .int x2]) (st := []) ddX11_learn_41 csX11_95 (wX11_has 1 (Nat.le_refl _) v5 x2 A hv) rfl (Nat.le_trans (m := 3) (by decide) hd) (Nat.le_of_ble_eq_true rfl) ?_
      clear hv
      obtain ⟨v7, hq, h⟩ := ruB_inv h
      have J : ruW E mmX11_learn d (ruPr r B) 72 [some (rurf E 83), none, some (.int x2), some (.int x3), some (.int ((32 : Int32) + ((4 : Int32) * x1))), none] [.int v7] A := by
          refine ru_istore ddX11_learn_72 (by decide) rfl rfl ?_
          refine ru_aload_n ddX11_learn_74 rfl ?_
          refine ru_getR (r := 84) ddX11_learn_75 flX11_9 rfl rfl ?_
          refine ru_iload ddX11_learn_78 rfl ?_
          refine ru_iconst (2 : Int32) ddX11_learn_80 rfl ?_
          refine ru_iadd ddX11_learn_81 ?_
          refine ru_dup2 ddX11_learn_82 rfl rfl ?_
          obtain ⟨v10, hv, h⟩ := ruB_inv h
          refine ru_iald ddX11_learn_83 rfl hv ?_
          clear hv
          refine ru_iconst (1 : Int32) ddX11_learn_84 rfl ?_
          refine ru_iload_n ddX11_learn_85 rfl ?_
          refine ru_ishl ddX11_learn_86 ?_
          refine ru_ior ddX11_learn_87 ?_
          obtain ⟨A11, hv, h⟩ := ruB_inv h
          refine ru_iast ddX11_learn_88 rfl hv ?_
          clear hv
          refine ru_aload_n ddX11_learn_89 rfl ?_
          refine ru_getR (r := 84) ddX11_learn_90 flX11_9 rfl rfl ?_
          refine ru_iload ddX11_learn_93 rfl ?_
          refine ru_iconst (3 : Int32) ddX11_learn_95 rfl ?_
          refine ru_iadd ddX11_learn_96 ?_
          refine ru_dup2 ddX11_learn_97 rfl rfl ?_
          obtain ⟨v12, hv, h⟩ := ruB_inv h
          refine ru_iald ddX11_learn_98 rfl hv ?_
          clear hv
          refine ru_iload_n ddX11_learn_99 rfl ?_
          obtain ⟨v13, hq, h⟩ := ruB_inv h
          have J : ruW E mmX11_learn d (ruPr r B) 110 [none, none, none, none, none, some (.int v7)] [.int v13, .int v12, .int (((32 : Int32) + ((4 : Int32) * x1)) + (3 : Int32)), rurf E 84] A11 := by
              refine ru_ior ddX11_learn_110 ?_
              obtain ⟨A14, hv, h⟩ := ruB_inv h
              refine ru_iast ddX11_learn_111 rfl hv ?_
              clear hv
              refine ru_iload ddX11_learn_112 rfl ?_
              refine ru_if_eq 121 ddX11_learn_114 (by decide) (fun hc => ?_) (fun hc => ?_)
              · rw [if_pos hc] at h
                refine ru_iconst (0 : Int32) ddX11_learn_121 rfl ?_
                exact ru_iretW ddX11_learn_122 rfl h
              · rw [if_neg hc] at h
                refine ru_iconst (1 : Int32) ddX11_learn_117 rfl ?_
                refine ru_goto 122 ddX11_learn_118 (by decide) ?_
                exact ru_iretW ddX11_learn_122 rfl h
          replace h := hq
          clear hq
          refine ru_if_eq 109 ddX11_learn_100 (by decide) (fun hc => ?_) (fun hc => ?_)
          · rw [if_pos hc] at h
            refine ru_iconst (0 : Int32) ddX11_learn_109 rfl ?_
            refine ru_wk (L2 := [none, none, none, none, none, some (.int v7)]) ⟨rfl, trivial⟩ ?_
            obtain rfl := ruS1 h
            exact J
          · rw [if_neg hc] at h
            refine ru_iconst (1 : Int32) ddX11_learn_103 rfl ?_
            refine ru_iload_n ddX11_learn_104 rfl ?_
            refine ru_ishl ddX11_learn_105 ?_
            refine ru_goto 110 ddX11_learn_106 (by decide) ?_
            refine ru_wk (L2 := [none, none, none, none, none, some (.int v7)]) ⟨rfl, trivial⟩ ?_
            obtain rfl := ruS1 h
            exact J
      replace h := hq
      clear hq
      refine ru_if_eq 67 ddX11_learn_44 (by decide) (fun hc => ?_) (fun hc => ?_)
      · rw [if_pos hc] at h
        refine ru_iconst (1 : Int32) ddX11_learn_67 rfl ?_
        refine ru_goto 72 ddX11_learn_68 (by decide) ?_
        refine ru_wk (L2 := [some (rurf E 83), none, some (.int x2), some (.int x3), some (.int ((32 : Int32) + ((4 : Int32) * x1))), none]) ⟨rfl, rfl, rfl, rfl, trivial⟩ ?_
        obtain rfl := ruS1 h
        exact J
      · rw [if_neg hc] at h
        refine ru_iload_n ddX11_learn_47 rfl ?_
        refine ru_if_eq 71 ddX11_learn_48 (by decide) (fun hc => ?_) (fun hc => ?_)
        · rw [if_pos hc] at h
          refine ru_iconst (0 : Int32) ddX11_learn_71 rfl ?_
          refine ru_wk (L2 := [some (rurf E 83), none, some (.int x2), some (.int x3), some (.int ((32 : Int32) + ((4 : Int32) * x1))), none]) ⟨rfl, rfl, rfl, rfl, trivial⟩ ?_
          obtain rfl := ruS1 h
          exact J
        · rw [if_neg hc] at h
          refine ru_aload_n ddX11_learn_51 rfl ?_
          refine ru_getR (r := 84) ddX11_learn_52 flX11_9 rfl rfl ?_
          refine ru_iload ddX11_learn_55 rfl ?_
          refine ru_iconst (3 : Int32) ddX11_learn_57 rfl ?_
          refine ru_iadd ddX11_learn_58 ?_
          obtain ⟨v8, hv, h⟩ := ruB_inv h
          refine ru_iald ddX11_learn_59 rfl hv ?_
          clear hv
          refine ru_iload_n ddX11_learn_60 rfl ?_
          obtain ⟨v9, hv, h⟩ := ruB_inv h
          refine ru_callSi (as := [.int v8, .int x2]) (st := []) ddX11_learn_61 csX11_95 (wX11_has 1 (Nat.le_refl _) v8 x2 A hv) rfl (Nat.le_trans (m := 3) (by decide) hd) (Nat.le_of_ble_eq_true rfl) ?_
          clear hv
          refine ru_if_ne 71 ddX11_learn_64 (by decide) (fun hc => ?_) (fun hc => ?_)
          · rw [if_neg hc] at h
            refine ru_iconst (0 : Int32) ddX11_learn_71 rfl ?_
            refine ru_wk (L2 := [some (rurf E 83), none, some (.int x2), some (.int x3), some (.int ((32 : Int32) + ((4 : Int32) * x1))), none]) ⟨rfl, rfl, rfl, rfl, trivial⟩ ?_
            obtain rfl := ruS1 h
            exact J
          · rw [if_pos hc] at h
            refine ru_iconst (1 : Int32) ddX11_learn_67 rfl ?_
            refine ru_goto 72 ddX11_learn_68 (by decide) ?_
            refine ru_wk (L2 := [some (rurf E 83), none, some (.int x2), some (.int x3), some (.int ((32 : Int32) + ((4 : Int32) * x1))), none]) ⟨rfl, rfl, rfl, rfl, trivial⟩ ?_
            obtain rfl := ruS1 h
            exact J
    · rw [if_pos hc] at h
      refine ru_aload_n ddX11_learn_16 rfl ?_
      refine ru_ldc (v := (-1000001 : Int32)) ddX11_learn_17 ckX11_65 ?_
      obtain ⟨v15, A16, hv, h⟩ := ruB2_inv h
      refine ru_callVi (as := [.int (-1000001 : Int32)]) (st := []) ddX11_learn_19 cvX11_82 rfl (wX11_finding 1 (Nat.le_refl _) (-1000001 : Int32) A hv) rfl (Nat.le_trans (m := 3) (by decide) hd) (Nat.le_of_ble_eq_true rfl) ?_
      clear hv
      exact ru_iretW ddX11_learn_22 rfl h
theorem wX11_forget {E : ruE} (d : Nat) (hd : 3 ≤ d) (x1 : Int32) (x2 : Int32) (A : ruA) {r : Int32} {B : ruA} (h : fX11_forget x1 x2 A = some (r, B)) : ruC E mmX11_forget d [rurf E 83, .int x1, .int x2] A (ruPr r B) := by
  refine ruC.of (L := [some (rurf E 83), some (.int x1), some (.int x2), none, none]) (by decide) rfl (Nat.le_of_ble_eq_true rfl) rfl ?_
  unfold fX11_forget at h
  refine ru_aload_n ddX11_forget_0 rfl ?_
  refine ru_iload_n ddX11_forget_1 rfl ?_
  refine ru_iconst (2 : Int32) ddX11_forget_2 rfl ?_
  obtain ⟨v1, hv, h⟩ := ruB_inv h
  refine ru_callVi (as := [.int x1, .int (2 : Int32)]) (st := []) ddX11_forget_3 cvX11_87 rfl (wX11_is 2 (Nat.le_refl _) x1 (2 : Int32) A hv) rfl (Nat.le_trans (m := 3) (by decide) hd) (Nat.le_of_ble_eq_true rfl) ?_
  clear hv
  refine ru_if_eq 16 ddX11_forget_6 (by decide) (fun hc => ?_) (fun hc => ?_)
  · rw [if_pos hc] at h
    refine ru_aload_n ddX11_forget_16 rfl ?_
    refine ru_ldc (v := (-1000001 : Int32)) ddX11_forget_17 ckX11_65 ?_
    obtain ⟨v2, A3, hv, h⟩ := ruB2_inv h
    refine ru_callVi (as := [.int (-1000001 : Int32)]) (st := []) ddX11_forget_19 cvX11_82 rfl (wX11_finding 1 (Nat.le_refl _) (-1000001 : Int32) A hv) rfl (Nat.le_trans (m := 3) (by decide) hd) (Nat.le_of_ble_eq_true rfl) ?_
    clear hv
    exact ru_iretW ddX11_forget_22 rfl h
  · rw [if_neg hc] at h
    refine ru_iload_n ddX11_forget_9 rfl ?_
    obtain ⟨v4, hv, h⟩ := ruB_inv h
    refine ru_callSi (as := [.int x2]) (st := []) ddX11_forget_10 csX11_78 (wX11_isQuestion 2 (Nat.le_refl _) x2 A hv) rfl (Nat.le_trans (m := 3) (by decide) hd) (Nat.le_of_ble_eq_true rfl) ?_
    clear hv
    refine ru_if_ne 23 ddX11_forget_13 (by decide) (fun hc => ?_) (fun hc => ?_)
    · rw [if_neg hc] at h
      refine ru_bipush (32 : Int32) ddX11_forget_23 rfl ?_
      refine ru_iconst (4 : Int32) ddX11_forget_25 rfl ?_
      refine ru_iload_n ddX11_forget_26 rfl ?_
      refine ru_imul ddX11_forget_27 ?_
      refine ru_iadd ddX11_forget_28 ?_
      refine ru_istore_n ddX11_forget_29 (by decide) rfl rfl ?_
      refine ru_aload_n ddX11_forget_30 rfl ?_
      refine ru_getR (r := 84) ddX11_forget_31 flX11_9 rfl rfl ?_
      refine ru_iload_n ddX11_forget_34 rfl ?_
      refine ru_iconst (2 : Int32) ddX11_forget_35 rfl ?_
      refine ru_iadd ddX11_forget_36 ?_
      obtain ⟨v5, hv, h⟩ := ruB_inv h
      refine ru_iald ddX11_forget_37 rfl hv ?_
      clear hv
      refine ru_iload_n ddX11_forget_38 rfl ?_
      obtain ⟨v6, hv, h⟩ := ruB_inv h
      refine ru_callSi (as := [.int v5, .int x2]) (st := []) ddX11_forget_39 csX11_95 (wX11_has 1 (Nat.le_refl _) v5 x2 A hv) rfl (Nat.le_trans (m := 3) (by decide) hd) (Nat.le_of_ble_eq_true rfl) ?_
      clear hv
      refine ru_istore ddX11_forget_42 (by decide) rfl rfl ?_
      refine ru_aload_n ddX11_forget_44 rfl ?_
      refine ru_getR (r := 84) ddX11_forget_45 flX11_9 rfl rfl ?_
      refine ru_iload_n ddX11_forget_48 rfl ?_
      refine ru_iconst (2 : Int32) ddX11_forget_49 rfl ?_
      refine ru_iadd ddX11_forget_50 ?_
      refine ru_dup2 ddX11_forget_51 rfl rfl ?_
      obtain ⟨v7, hv, h⟩ := ruB_inv h
      refine ru_iald ddX11_forget_52 rfl hv ?_
      clear hv
      refine ru_iconst (1 : Int32) ddX11_forget_53 rfl ?_
      refine ru_iload_n ddX11_forget_54 rfl ?_
      refine ru_ishl ddX11_forget_55 ?_
      refine ru_iconst (-1 : Int32) ddX11_forget_56 rfl ?_
      refine ru_ixor ddX11_forget_57 ?_
      refine ru_iand ddX11_forget_58 ?_
      obtain ⟨A8, hv, h⟩ := ruB_inv h
      refine ru_iast ddX11_forget_59 rfl hv ?_
      clear hv
      refine ru_aload_n ddX11_forget_60 rfl ?_
      refine ru_getR (r := 84) ddX11_forget_61 flX11_9 rfl rfl ?_
      refine ru_iload_n ddX11_forget_64 rfl ?_
      refine ru_iconst (3 : Int32) ddX11_forget_65 rfl ?_
      refine ru_iadd ddX11_forget_66 ?_
      refine ru_dup2 ddX11_forget_67 rfl rfl ?_
      obtain ⟨v9, hv, h⟩ := ruB_inv h
      refine ru_iald ddX11_forget_68 rfl hv ?_
      clear hv
      refine ru_iconst (1 : Int32) ddX11_forget_69 rfl ?_
      refine ru_iload_n ddX11_forget_70 rfl ?_
      refine ru_ishl ddX11_forget_71 ?_
      refine ru_iconst (-1 : Int32) ddX11_forget_72 rfl ?_
      refine ru_ixor ddX11_forget_73 ?_
      refine ru_iand ddX11_forget_74 ?_
      obtain ⟨A10, hv, h⟩ := ruB_inv h
      refine ru_iast ddX11_forget_75 rfl hv ?_
      clear hv
      refine ru_iload ddX11_forget_76 rfl ?_
      refine ru_if_eq 85 ddX11_forget_78 (by decide) (fun hc => ?_) (fun hc => ?_)
      · rw [if_pos hc] at h
        refine ru_iconst (0 : Int32) ddX11_forget_85 rfl ?_
        exact ru_iretW ddX11_forget_86 rfl h
      · rw [if_neg hc] at h
        refine ru_iconst (1 : Int32) ddX11_forget_81 rfl ?_
        refine ru_goto 86 ddX11_forget_82 (by decide) ?_
        exact ru_iretW ddX11_forget_86 rfl h
    · rw [if_pos hc] at h
      refine ru_aload_n ddX11_forget_16 rfl ?_
      refine ru_ldc (v := (-1000001 : Int32)) ddX11_forget_17 ckX11_65 ?_
      obtain ⟨v11, A12, hv, h⟩ := ruB2_inv h
      refine ru_callVi (as := [.int (-1000001 : Int32)]) (st := []) ddX11_forget_19 cvX11_82 rfl (wX11_finding 1 (Nat.le_refl _) (-1000001 : Int32) A hv) rfl (Nat.le_trans (m := 3) (by decide) hd) (Nat.le_of_ble_eq_true rfl) ?_
      clear hv
      exact ru_iretW ddX11_forget_22 rfl h
theorem wX11_hasSheet {E : ruE} (d : Nat) (hd : 2 ≤ d) (x1 : Int32) (x2 : Int32) (A : ruA) {r : Int32} (h : fX11_hasSheet x1 x2 A = some r) : ruC E mmX11_hasSheet d [rurf E 83, .int x1, .int x2] A (ruPr r A) := by
  refine ruC.of (L := [some (rurf E 83), some (.int x1), some (.int x2)]) (by decide) rfl (Nat.le_of_ble_eq_true rfl) rfl ?_
  unfold fX11_hasSheet at h
  refine ru_aload_n ddX11_hasSheet_0 rfl ?_
  refine ru_getR (r := 84) ddX11_hasSheet_1 flX11_9 rfl rfl ?_
  refine ru_iload_n ddX11_hasSheet_4 rfl ?_
  refine ru_iload_n ddX11_hasSheet_5 rfl ?_
  obtain ⟨v1, hv, h⟩ := ruB_inv h
  refine ru_callSi (as := [.int x1, .int x2]) (st := [rurf E 84]) ddX11_hasSheet_6 csX11_70 (wX11_sheetAt 1 (Nat.le_refl _) x1 x2 A hv) rfl (Nat.le_trans (m := 2) (by decide) hd) (Nat.le_of_ble_eq_true rfl) ?_
  clear hv
  obtain ⟨v2, hv, h⟩ := ruB_inv h
  refine ru_iald ddX11_hasSheet_9 rfl hv ?_
  clear hv
  refine ru_iconst (1 : Int32) ddX11_hasSheet_10 rfl ?_
  refine ru_icmp_ne 18 ddX11_hasSheet_11 (by decide) (fun hc => ?_) (fun hc => ?_)
  · rw [if_neg hc] at h
    refine ru_iconst (0 : Int32) ddX11_hasSheet_18 rfl ?_
    exact ru_zretP ddX11_hasSheet_19 rfl (Or.inl rfl) h
  · rw [if_pos hc] at h
    refine ru_iconst (1 : Int32) ddX11_hasSheet_14 rfl ?_
    refine ru_goto 19 ddX11_hasSheet_15 (by decide) ?_
    exact ru_zretP ddX11_hasSheet_19 rfl (Or.inr rfl) h
theorem wX11_childIs_l42 {E : ruE} {d : Nat} (hd : 3 ≤ d) {β : Type} {Q : Option Value → ruA → Prop} {res : β} (x1 : Int32) (A : ruA) {k73 : Int32 → Option (β)} (hk73 : ∀ (x3 : Int32), k73 x3 = some res → ruW E mmX11_childIs d Q 73 [none, none, none, some (.int x3), none] [] A) : ∀ (n : Nat) (x3 : Int32) (x4 : Int32), fX11_childIs_l42 x1 A k73 n x3 x4 = some res → ruW E mmX11_childIs d Q 42 [some (rurf E 83), some (.int x1), none, some (.int x3), some (.int x4)] [] A := by
  intro n
  induction n with
  | zero =>
    intro x3 x4 h
    exact absurd h (by rw [fX11_childIs_l42]; exact fun h => nomatch h)
  | succ n ih =>
    intro x3 x4 h
    rw [fX11_childIs_l42] at h
    refine ru_iload ddX11_childIs_42 rfl ?_
    refine ru_bipush (6 : Int32) ddX11_childIs_44 rfl ?_
    refine ru_icmp_ge 73 ddX11_childIs_46 (by decide) (fun hc => ?_) (fun hc => ?_)
    · rw [if_pos hc] at h
      refine ru_wk (L2 := [none, none, none, some (.int x3), none]) ⟨rfl, trivial⟩ ?_
      exact hk73 x3 h
    · rw [if_neg hc] at h
      refine ru_iload_n ddX11_childIs_49 rfl ?_
      refine ru_aload_n ddX11_childIs_50 rfl ?_
      refine ru_iload_n ddX11_childIs_51 rfl ?_
      refine ru_iload ddX11_childIs_52 rfl ?_
      obtain ⟨v5, hv, h⟩ := ruB_inv h
      refine ru_callVi (as := [.int x1, .int x4]) (st := [.int x3]) ddX11_childIs_54 cvX11_98 rfl (wX11_hasSheet 2 (Nat.le_refl _) x1 x4 A hv) rfl (Nat.le_trans (m := 3) (by decide) hd) (Nat.le_of_ble_eq_true rfl) ?_
      clear hv
      obtain ⟨v6, hq, h⟩ := ruB_inv h
      have J : ruW E mmX11_childIs d Q 65 [some (rurf E 83), some (.int x1), none, none, some (.int x4)] [.int v6, .int x3] A := by
          refine ru_iadd ddX11_childIs_65 ?_
          refine ru_istore_n ddX11_childIs_66 (by decide) rfl rfl ?_
          refine ru_iinc (x4 + (1 : Int32)) ddX11_childIs_67 (by decide) rfl rfl rfl rfl ?_
          refine ru_goto 42 ddX11_childIs_70 (by decide) ?_
          exact ih (x3 + v6) (x4 + (1 : Int32)) h
      replace h := hq
      clear hq
      refine ru_if_eq 64 ddX11_childIs_57 (by decide) (fun hc => ?_) (fun hc => ?_)
      · rw [if_pos hc] at h
        refine ru_iconst (0 : Int32) ddX11_childIs_64 rfl ?_
        refine ru_wk (L2 := [some (rurf E 83), some (.int x1), none, none, some (.int x4)]) ⟨rfl, rfl, rfl, trivial⟩ ?_
        obtain rfl := ruS1 h
        exact J
      · rw [if_neg hc] at h
        refine ru_iconst (1 : Int32) ddX11_childIs_60 rfl ?_
        refine ru_goto 65 ddX11_childIs_61 (by decide) ?_
        refine ru_wk (L2 := [some (rurf E 83), some (.int x1), none, none, some (.int x4)]) ⟨rfl, rfl, rfl, trivial⟩ ?_
        obtain rfl := ruS1 h
        exact J
theorem wX11_childIs {E : ruE} (d : Nat) (hd : 3 ≤ d) (x1 : Int32) (x2 : Int32) (A : ruA) {r : Int32} {B : ruA} (h : fX11_childIs x1 x2 A = some (r, B)) : ruC E mmX11_childIs d [rurf E 83, .int x1, .int x2] A (ruPr r B) := by
  refine ruC.of (L := [some (rurf E 83), some (.int x1), some (.int x2), none, none]) (by decide) rfl (Nat.le_of_ble_eq_true rfl) rfl ?_
  unfold fX11_childIs at h
  refine ru_aload_n ddX11_childIs_0 rfl ?_
  refine ru_iload_n ddX11_childIs_1 rfl ?_
  refine ru_iconst (2 : Int32) ddX11_childIs_2 rfl ?_
  obtain ⟨v1, hv, h⟩ := ruB_inv h
  refine ru_callVi (as := [.int x1, .int (2 : Int32)]) (st := []) ddX11_childIs_3 cvX11_87 rfl (wX11_is 2 (Nat.le_refl _) x1 (2 : Int32) A hv) rfl (Nat.le_trans (m := 3) (by decide) hd) (Nat.le_of_ble_eq_true rfl) ?_
  clear hv
  refine ru_if_eq 18 ddX11_childIs_6 (by decide) (fun hc => ?_) (fun hc => ?_)
  · rw [if_pos hc] at h
    refine ru_aload_n ddX11_childIs_18 rfl ?_
    refine ru_ldc (v := (-1000001 : Int32)) ddX11_childIs_19 ckX11_65 ?_
    obtain ⟨v2, A3, hv, h⟩ := ruB2_inv h
    refine ru_callVi (as := [.int (-1000001 : Int32)]) (st := []) ddX11_childIs_21 cvX11_82 rfl (wX11_finding 1 (Nat.le_refl _) (-1000001 : Int32) A hv) rfl (Nat.le_trans (m := 3) (by decide) hd) (Nat.le_of_ble_eq_true rfl) ?_
    clear hv
    exact ru_iretW ddX11_childIs_24 rfl h
  · rw [if_neg hc] at h
    refine ru_iload_n ddX11_childIs_9 rfl ?_
    refine ru_iconst (0 : Int32) ddX11_childIs_10 rfl ?_
    refine ru_iconst (4 : Int32) ddX11_childIs_11 rfl ?_
    obtain ⟨v4, hv, h⟩ := ruB_inv h
    refine ru_callSi (as := [.int x2, .int (0 : Int32), .int (4 : Int32)]) (st := []) ddX11_childIs_12 csX11_66 (wX11_within 1 (Nat.le_refl _) x2 (0 : Int32) (4 : Int32) A hv) rfl (Nat.le_trans (m := 3) (by decide) hd) (Nat.le_of_ble_eq_true rfl) ?_
    clear hv
    refine ru_if_ne 25 ddX11_childIs_15 (by decide) (fun hc => ?_) (fun hc => ?_)
    · rw [if_neg hc] at h
      refine ru_iload_n ddX11_childIs_25 rfl ?_
      refine ru_iconst (4 : Int32) ddX11_childIs_26 rfl ?_
      refine ru_icmp_ge 37 ddX11_childIs_27 (by decide) (fun hc => ?_) (fun hc => ?_)
      · rw [if_pos hc] at h
        refine ru_iconst (0 : Int32) ddX11_childIs_37 rfl ?_
        refine ru_istore_n ddX11_childIs_38 (by decide) rfl rfl ?_
        refine ru_iconst (0 : Int32) ddX11_childIs_39 rfl ?_
        refine ru_istore ddX11_childIs_40 (by decide) rfl rfl ?_
        refine ru_wk (L2 := [some (rurf E 83), some (.int x1), none, some (.int (0 : Int32)), some (.int (0 : Int32))]) ⟨rfl, rfl, rfl, rfl, trivial⟩ ?_
        exact wX11_childIs_l42 hd x1 A (fun v7 h => by
              refine ru_iload_n ddX11_childIs_73 rfl ?_
              exact ru_iretW ddX11_childIs_74 rfl h) ruF (0 : Int32) (0 : Int32) h
      · rw [if_neg hc] at h
        refine ru_aload_n ddX11_childIs_30 rfl ?_
        refine ru_iload_n ddX11_childIs_31 rfl ?_
        refine ru_iload_n ddX11_childIs_32 rfl ?_
        obtain ⟨v8, hv, h⟩ := ruB_inv h
        refine ru_callVi (as := [.int x1, .int x2]) (st := []) ddX11_childIs_33 cvX11_91 rfl (wX11_childOf 1 (Nat.le_refl _) x1 x2 A hv) rfl (Nat.le_trans (m := 3) (by decide) hd) (Nat.le_of_ble_eq_true rfl) ?_
        clear hv
        exact ru_iretW ddX11_childIs_36 rfl h
    · rw [if_pos hc] at h
      refine ru_aload_n ddX11_childIs_18 rfl ?_
      refine ru_ldc (v := (-1000001 : Int32)) ddX11_childIs_19 ckX11_65 ?_
      obtain ⟨v9, A10, hv, h⟩ := ruB2_inv h
      refine ru_callVi (as := [.int (-1000001 : Int32)]) (st := []) ddX11_childIs_21 cvX11_82 rfl (wX11_finding 1 (Nat.le_refl _) (-1000001 : Int32) A hv) rfl (Nat.le_trans (m := 3) (by decide) hd) (Nat.le_of_ble_eq_true rfl) ?_
      clear hv
      exact ru_iretW ddX11_childIs_24 rfl h
theorem wX11_year {E : ruE} (d : Nat) (hd : 2 ≤ d) (A : ruA) {r : Int32} {B : ruA} (h : fX11_year A = some (r, B)) : ruC E mmX11_year d [rurf E 83] A (ruPr r B) := by
  refine ruC.of (L := [some (rurf E 83)]) (by decide) rfl (Nat.le_of_ble_eq_true rfl) rfl ?_
  unfold fX11_year at h
  refine ru_aload_n ddX11_year_0 rfl ?_
  refine ru_getR (r := 84) ddX11_year_1 flX11_9 rfl rfl ?_
  refine ru_iconst (0 : Int32) ddX11_year_4 rfl ?_
  obtain ⟨v1, hv, h⟩ := ruB_inv h
  refine ru_iald ddX11_year_5 rfl hv ?_
  clear hv
  refine ru_iconst (5 : Int32) ddX11_year_6 rfl ?_
  refine ru_icmp_ne 17 ddX11_year_7 (by decide) (fun hc => ?_) (fun hc => ?_)
  · rw [if_neg hc] at h
    refine ru_aload_n ddX11_year_17 rfl ?_
    refine ru_getR (r := 84) ddX11_year_18 flX11_9 rfl rfl ?_
    refine ru_iconst (0 : Int32) ddX11_year_21 rfl ?_
    refine ru_dup2 ddX11_year_22 rfl rfl ?_
    obtain ⟨v2, hv, h⟩ := ruB_inv h
    refine ru_iald ddX11_year_23 rfl hv ?_
    clear hv
    refine ru_iconst (1 : Int32) ddX11_year_24 rfl ?_
    refine ru_iadd ddX11_year_25 ?_
    obtain ⟨A3, hv, h⟩ := ruB_inv h
    refine ru_iast ddX11_year_26 rfl hv ?_
    clear hv
    refine ru_aload_n ddX11_year_27 rfl ?_
    refine ru_getR (r := 84) ddX11_year_28 flX11_9 rfl rfl ?_
    refine ru_iconst (0 : Int32) ddX11_year_31 rfl ?_
    obtain ⟨v4, hv, h⟩ := ruB_inv h
    refine ru_iald ddX11_year_32 rfl hv ?_
    clear hv
    exact ru_iretW ddX11_year_33 rfl h
  · rw [if_pos hc] at h
    refine ru_aload_n ddX11_year_10 rfl ?_
    refine ru_ldc (v := (-1000002 : Int32)) ddX11_year_11 ckX11_86 ?_
    obtain ⟨v5, A6, hv, h⟩ := ruB2_inv h
    refine ru_callVi (as := [.int (-1000002 : Int32)]) (st := []) ddX11_year_13 cvX11_82 rfl (wX11_finding 1 (Nat.le_refl _) (-1000002 : Int32) A hv) rfl (Nat.le_trans (m := 2) (by decide) hd) (Nat.le_of_ble_eq_true rfl) ?_
    clear hv
    exact ru_iretW ddX11_year_16 rfl h
theorem wX11_fresh_l13 {E : ruE} {d : Nat} (hd : 2 ≤ d) {β : Type} {Q : Option Value → ruA → Prop} {res : β} (x2 : Int32) {k52 : ruA → Option (β)} (hk52 : ∀ (A : ruA), k52 A = some res → ruW E mmX11_fresh d Q 52 [none, none, some (.int x2), none] [] A) : ∀ (n : Nat) (x3 : Int32) (A : ruA), fX11_fresh_l13 x2 k52 n x3 A = some res → ruW E mmX11_fresh d Q 13 [some (rurf E 83), none, some (.int x2), some (.int x3)] [] A := by
  intro n
  induction n with
  | zero =>
    intro x3 A h
    exact absurd h (by rw [fX11_fresh_l13]; exact fun h => nomatch h)
  | succ n ih =>
    intro x3 A h
    rw [fX11_fresh_l13] at h
    refine ru_iload_n ddX11_fresh_13 rfl ?_
    refine ru_bipush (28 : Int32) ddX11_fresh_14 rfl ?_
    refine ru_icmp_ge 52 ddX11_fresh_16 (by decide) (fun hc => ?_) (fun hc => ?_)
    · rw [if_pos hc] at h
      refine ru_wk (L2 := [none, none, some (.int x2), none]) ⟨rfl, trivial⟩ ?_
      exact hk52 A h
    · rw [if_neg hc] at h
      refine ru_aload_n ddX11_fresh_19 rfl ?_
      refine ru_getR (r := 84) ddX11_fresh_20 flX11_9 rfl rfl ?_
      refine ru_iload_n ddX11_fresh_23 rfl ?_
      refine ru_iload_n ddX11_fresh_24 rfl ?_
      refine ru_iadd ddX11_fresh_25 ?_
      refine ru_iload_n ddX11_fresh_26 rfl ?_
      obtain ⟨v3, hq, h⟩ := ruB_inv h
      have J : ruW E mmX11_fresh d Q 45 [some (rurf E 83), none, some (.int x2), some (.int x3)] [.int v3, .int (x2 + x3), rurf E 84] A := by
          obtain ⟨A4, hv, h⟩ := ruB_inv h
          refine ru_iast ddX11_fresh_45 rfl hv ?_
          clear hv
          refine ru_iinc (x3 + (1 : Int32)) ddX11_fresh_46 (by decide) rfl rfl rfl rfl ?_
          refine ru_goto 13 ddX11_fresh_49 (by decide) ?_
          exact ih (x3 + (1 : Int32)) A4 h
      replace h := hq
      clear hq
      refine ru_if_ne 34 ddX11_fresh_27 (by decide) (fun hc => ?_) (fun hc => ?_)
      · rw [if_neg hc] at h
        refine ru_iload_n ddX11_fresh_34 rfl ?_
        refine ru_bipush (13 : Int32) ddX11_fresh_35 rfl ?_
        refine ru_icmp_ge 44 ddX11_fresh_37 (by decide) (fun hc => ?_) (fun hc => ?_)
        · rw [if_pos hc] at h
          refine ru_iconst (0 : Int32) ddX11_fresh_44 rfl ?_
          obtain rfl := ruS1 h
          exact J
        · rw [if_neg hc] at h
          refine ru_iconst (-1 : Int32) ddX11_fresh_40 rfl ?_
          refine ru_goto 45 ddX11_fresh_41 (by decide) ?_
          obtain rfl := ruS1 h
          exact J
      · rw [if_pos hc] at h
        refine ru_iconst (1 : Int32) ddX11_fresh_30 rfl ?_
        refine ru_goto 45 ddX11_fresh_31 (by decide) ?_
        obtain rfl := ruS1 h
        exact J
theorem wX11_fresh {E : ruE} (d : Nat) (hd : 2 ≤ d) (x1 : Int32) (A : ruA) {r : Int32} {B : ruA} (h : fX11_fresh x1 A = some (r, B)) : ruC E mmX11_fresh d [rurf E 83, .int x1] A (ruPr r B) := by
  refine ruC.of (L := [some (rurf E 83), some (.int x1), none, none]) (by decide) rfl (Nat.le_of_ble_eq_true rfl) rfl ?_
  unfold fX11_fresh at h
  refine ru_iload_n ddX11_fresh_0 rfl ?_
  refine ru_aload_n ddX11_fresh_1 rfl ?_
  refine ru_getR (r := 84) ddX11_fresh_2 flX11_9 rfl rfl ?_
  refine ru_iconst (0 : Int32) ddX11_fresh_5 rfl ?_
  obtain ⟨v1, hv, h⟩ := ruB_inv h
  refine ru_iald ddX11_fresh_6 rfl hv ?_
  clear hv
  obtain ⟨v2, hv, h⟩ := ruB_inv h
  refine ru_callSi (as := [.int x1, .int v1]) (st := []) ddX11_fresh_7 csX11_70 (wX11_sheetAt 1 (Nat.le_refl _) x1 v1 A hv) rfl (Nat.le_trans (m := 2) (by decide) hd) (Nat.le_of_ble_eq_true rfl) ?_
  clear hv
  refine ru_istore_n ddX11_fresh_10 (by decide) rfl rfl ?_
  refine ru_iconst (0 : Int32) ddX11_fresh_11 rfl ?_
  refine ru_istore_n ddX11_fresh_12 (by decide) rfl rfl ?_
  refine ru_wk (L2 := [some (rurf E 83), none, some (.int v2), some (.int (0 : Int32))]) ⟨rfl, rfl, rfl, trivial⟩ ?_
  exact wX11_fresh_l13 hd v2 (fun A5 h => by
        refine ru_iload_n ddX11_fresh_52 rfl ?_
        exact ru_iretW ddX11_fresh_53 rfl h) ruF (0 : Int32) A h
theorem wX11_put {E : ruE} (d : Nat) (hd : 1 ≤ d) (x1 : Int32) (x2 : Int32) (x3 : Int32) (x4 : Int32) (A : ruA) {B : ruA} (h : fX11_put x1 x2 x3 x4 A = some B) : ruC E mmX11_put d [rurf E 83, .int x1, .int x2, .int x3, .int x4] A (ruPv B) := by
  refine ruC.of (L := [some (rurf E 83), some (.int x1), some (.int x2), some (.int x3), some (.int x4)]) (by decide) rfl (Nat.le_of_ble_eq_true rfl) rfl ?_
  unfold fX11_put at h
  refine ru_aload_n ddX11_put_0 rfl ?_
  refine ru_getR (r := 84) ddX11_put_1 flX11_9 rfl rfl ?_
  refine ru_iload_n ddX11_put_4 rfl ?_
  refine ru_iconst (1 : Int32) ddX11_put_5 rfl ?_
  refine ru_iadd ddX11_put_6 ?_
  refine ru_iload_n ddX11_put_7 rfl ?_
  refine ru_iadd ddX11_put_8 ?_
  refine ru_iload ddX11_put_9 rfl ?_
  obtain ⟨A1, hv, h⟩ := ruB_inv h
  refine ru_iast ddX11_put_11 rfl hv ?_
  clear hv
  refine ru_aload_n ddX11_put_12 rfl ?_
  refine ru_getR (r := 84) ddX11_put_13 flX11_9 rfl rfl ?_
  refine ru_iload_n ddX11_put_16 rfl ?_
  refine ru_bipush (13 : Int32) ddX11_put_17 rfl ?_
  refine ru_iadd ddX11_put_19 ?_
  refine ru_iload_n ddX11_put_20 rfl ?_
  refine ru_iadd ddX11_put_21 ?_
  refine ru_iload_n ddX11_put_22 rfl ?_
  obtain ⟨A2, hv, h⟩ := ruB_inv h
  refine ru_iast ddX11_put_23 rfl hv ?_
  clear hv
  exact ru_vretW ddX11_put_24 rfl h
theorem wX11_choice {E : ruE} (d : Nat) (hd : 2 ≤ d) (x1 : Int32) (x2 : Int32) (x3 : Int32) (A : ruA) {r : Int32} (h : fX11_choice x1 x2 x3 A = some r) : ruC E mmX11_choice d [rurf E 83, .int x1, .int x2, .int x3] A (ruPr r A) := by
  refine ruC.of (L := [some (rurf E 83), some (.int x1), some (.int x2), some (.int x3)]) (by decide) rfl (Nat.le_of_ble_eq_true rfl) rfl ?_
  unfold fX11_choice at h
  refine ru_aload_n ddX11_choice_0 rfl ?_
  refine ru_getR (r := 84) ddX11_choice_1 flX11_9 rfl rfl ?_
  refine ru_iload_n ddX11_choice_4 rfl ?_
  refine ru_iload_n ddX11_choice_5 rfl ?_
  obtain ⟨v1, hv, h⟩ := ruB_inv h
  refine ru_callSi (as := [.int x1, .int x2]) (st := [rurf E 84]) ddX11_choice_6 csX11_70 (wX11_sheetAt 1 (Nat.le_refl _) x1 x2 A hv) rfl (Nat.le_trans (m := 2) (by decide) hd) (Nat.le_of_ble_eq_true rfl) ?_
  clear hv
  refine ru_iconst (1 : Int32) ddX11_choice_9 rfl ?_
  refine ru_iadd ddX11_choice_10 ?_
  refine ru_iload_n ddX11_choice_11 rfl ?_
  refine ru_iadd ddX11_choice_12 ?_
  obtain ⟨v2, hv, h⟩ := ruB_inv h
  refine ru_iald ddX11_choice_13 rfl hv ?_
  clear hv
  exact ru_iretP ddX11_choice_14 rfl h
theorem wX11_isRight {E : ruE} (d : Nat) (hd : 3 ≤ d) (x1 : Int32) (x2 : Int32) (x3 : Int32) (A : ruA) {r : Int32} (h : fX11_isRight x1 x2 x3 A = some r) : ruC E mmX11_isRight d [rurf E 83, .int x1, .int x2, .int x3] A (ruPr r A) := by
  refine ruC.of (L := [some (rurf E 83), some (.int x1), some (.int x2), some (.int x3)]) (by decide) rfl (Nat.le_of_ble_eq_true rfl) rfl ?_
  unfold fX11_isRight at h
  refine ru_aload_n ddX11_isRight_0 rfl ?_
  refine ru_iload_n ddX11_isRight_1 rfl ?_
  refine ru_iload_n ddX11_isRight_2 rfl ?_
  refine ru_iload_n ddX11_isRight_3 rfl ?_
  obtain ⟨v1, hv, h⟩ := ruB_inv h
  refine ru_callVi (as := [.int x1, .int x2, .int x3]) (st := []) ddX11_isRight_4 cvX11_74 rfl (wX11_choice 2 (Nat.le_refl _) x1 x2 x3 A hv) rfl (Nat.le_trans (m := 3) (by decide) hd) (Nat.le_of_ble_eq_true rfl) ?_
  clear hv
  refine ru_aload_n ddX11_isRight_7 rfl ?_
  refine ru_getR (r := 84) ddX11_isRight_8 flX11_9 rfl rfl ?_
  refine ru_bipush (8 : Int32) ddX11_isRight_11 rfl ?_
  refine ru_iload_n ddX11_isRight_13 rfl ?_
  refine ru_iadd ddX11_isRight_14 ?_
  obtain ⟨v2, hv, h⟩ := ruB_inv h
  refine ru_iald ddX11_isRight_15 rfl hv ?_
  clear hv
  refine ru_icmp_ne 23 ddX11_isRight_16 (by decide) (fun hc => ?_) (fun hc => ?_)
  · rw [if_neg hc] at h
    refine ru_iconst (0 : Int32) ddX11_isRight_23 rfl ?_
    exact ru_zretP ddX11_isRight_24 rfl (Or.inl rfl) h
  · rw [if_pos hc] at h
    refine ru_iconst (1 : Int32) ddX11_isRight_19 rfl ?_
    refine ru_goto 24 ddX11_isRight_20 (by decide) ?_
    exact ru_zretP ddX11_isRight_24 rfl (Or.inr rfl) h
theorem wX11_rights_l5 {E : ruE} {d : Nat} (hd : 4 ≤ d) {β : Type} {Q : Option Value → ruA → Prop} {res : β} (x1 : Int32) (x2 : Int32) (A : ruA) {k37 : Int32 → Option (β)} (hk37 : ∀ (x3 : Int32), k37 x3 = some res → ruW E mmX11_rights d Q 37 [none, none, none, some (.int x3), none] [] A) : ∀ (n : Nat) (x3 : Int32) (x4 : Int32), fX11_rights_l5 x1 x2 A k37 n x3 x4 = some res → ruW E mmX11_rights d Q 5 [some (rurf E 83), some (.int x1), some (.int x2), some (.int x3), some (.int x4)] [] A := by
  intro n
  induction n with
  | zero =>
    intro x3 x4 h
    exact absurd h (by rw [fX11_rights_l5]; exact fun h => nomatch h)
  | succ n ih =>
    intro x3 x4 h
    rw [fX11_rights_l5] at h
    refine ru_iload ddX11_rights_5 rfl ?_
    refine ru_bipush (12 : Int32) ddX11_rights_7 rfl ?_
    refine ru_icmp_ge 37 ddX11_rights_9 (by decide) (fun hc => ?_) (fun hc => ?_)
    · rw [if_pos hc] at h
      refine ru_wk (L2 := [none, none, none, some (.int x3), none]) ⟨rfl, trivial⟩ ?_
      exact hk37 x3 h
    · rw [if_neg hc] at h
      refine ru_iload_n ddX11_rights_12 rfl ?_
      refine ru_aload_n ddX11_rights_13 rfl ?_
      refine ru_iload_n ddX11_rights_14 rfl ?_
      refine ru_iload_n ddX11_rights_15 rfl ?_
      refine ru_iload ddX11_rights_16 rfl ?_
      obtain ⟨v1, hv, h⟩ := ruB_inv h
      refine ru_callVi (as := [.int x1, .int x2, .int x4]) (st := [.int x3]) ddX11_rights_18 cvX11_101 rfl (wX11_isRight 3 (Nat.le_refl _) x1 x2 x4 A hv) rfl (Nat.le_trans (m := 4) (by decide) hd) (Nat.le_of_ble_eq_true rfl) ?_
      clear hv
      obtain ⟨v2, hq, h⟩ := ruB_inv h
      have J : ruW E mmX11_rights d Q 29 [some (rurf E 83), some (.int x1), some (.int x2), none, some (.int x4)] [.int v2, .int x3] A := by
          refine ru_iadd ddX11_rights_29 ?_
          refine ru_istore_n ddX11_rights_30 (by decide) rfl rfl ?_
          refine ru_iinc (x4 + (1 : Int32)) ddX11_rights_31 (by decide) rfl rfl rfl rfl ?_
          refine ru_goto 5 ddX11_rights_34 (by decide) ?_
          exact ih (x3 + v2) (x4 + (1 : Int32)) h
      replace h := hq
      clear hq
      refine ru_if_eq 28 ddX11_rights_21 (by decide) (fun hc => ?_) (fun hc => ?_)
      · rw [if_pos hc] at h
        refine ru_iconst (0 : Int32) ddX11_rights_28 rfl ?_
        refine ru_wk (L2 := [some (rurf E 83), some (.int x1), some (.int x2), none, some (.int x4)]) ⟨rfl, rfl, rfl, rfl, trivial⟩ ?_
        obtain rfl := ruS1 h
        exact J
      · rw [if_neg hc] at h
        refine ru_iconst (1 : Int32) ddX11_rights_24 rfl ?_
        refine ru_goto 29 ddX11_rights_25 (by decide) ?_
        refine ru_wk (L2 := [some (rurf E 83), some (.int x1), some (.int x2), none, some (.int x4)]) ⟨rfl, rfl, rfl, rfl, trivial⟩ ?_
        obtain rfl := ruS1 h
        exact J
theorem wX11_rights {E : ruE} (d : Nat) (hd : 4 ≤ d) (x1 : Int32) (x2 : Int32) (A : ruA) {r : Int32} (h : fX11_rights x1 x2 A = some r) : ruC E mmX11_rights d [rurf E 83, .int x1, .int x2] A (ruPr r A) := by
  refine ruC.of (L := [some (rurf E 83), some (.int x1), some (.int x2), none, none]) (by decide) rfl (Nat.le_of_ble_eq_true rfl) rfl ?_
  unfold fX11_rights at h
  refine ru_iconst (0 : Int32) ddX11_rights_0 rfl ?_
  refine ru_istore_n ddX11_rights_1 (by decide) rfl rfl ?_
  refine ru_iconst (0 : Int32) ddX11_rights_2 rfl ?_
  refine ru_istore ddX11_rights_3 (by decide) rfl rfl ?_
  exact wX11_rights_l5 hd x1 x2 A (fun v3 h => by
        refine ru_iload_n ddX11_rights_37 rfl ?_
        exact ru_iretP ddX11_rights_38 rfl h) ruF (0 : Int32) (0 : Int32) h
theorem wX11_sit_l49 {E : ruE} {d : Nat} (hd : 5 ≤ d) {β : Type} {Q : Option Value → ruA → Prop} {res : β} (x1 : Int32) (x3 : Int32) {k169 : ruA → Option (β)} (hk169 : ∀ (A : ruA), k169 A = some res → ruW E mmX11_sit d Q 169 [some (rurf E 83), some (.int x1), none, none, none, none, none] [] A) : ∀ (n : Nat) (x4 : Int32) (x5 : Int32) (A : ruA), fX11_sit_l49 x1 x3 k169 n x4 x5 A = some res → ruW E mmX11_sit d Q 49 [some (rurf E 83), some (.int x1), none, some (.int x3), some (.int x4), some (.int x5), none] [] A := by
  intro n
  induction n with
  | zero =>
    intro x4 x5 A h
    exact absurd h (by rw [fX11_sit_l49]; exact fun h => nomatch h)
  | succ n ih =>
    intro x4 x5 A h
    rw [fX11_sit_l49] at h
    refine ru_iload ddX11_sit_49 rfl ?_
    refine ru_bipush (12 : Int32) ddX11_sit_51 rfl ?_
    refine ru_icmp_ge 169 ddX11_sit_53 (by decide) (fun hc => ?_) (fun hc => ?_)
    · rw [if_pos hc] at h
      refine ru_wk (L2 := [some (rurf E 83), some (.int x1), none, none, none, none, none]) ⟨rfl, rfl, trivial⟩ ?_
      exact hk169 A h
    · rw [if_neg hc] at h
      refine ru_aload_n ddX11_sit_56 rfl ?_
      refine ru_iload_n ddX11_sit_57 rfl ?_
      refine ru_iconst (3 : Int32) ddX11_sit_58 rfl ?_
      obtain ⟨v6, hv, h⟩ := ruB_inv h
      refine ru_callVi (as := [.int x1, .int (3 : Int32)]) (st := []) ddX11_sit_59 cvX11_91 rfl (wX11_childOf 1 (Nat.le_refl _) x1 (3 : Int32) A hv) rfl (Nat.le_trans (m := 5) (by decide) hd) (Nat.le_of_ble_eq_true rfl) ?_
      clear hv
      refine ru_iload ddX11_sit_62 rfl ?_
      obtain ⟨v7, hv, h⟩ := ruB_inv h
      refine ru_callSi (as := [.int v6, .int x5]) (st := []) ddX11_sit_64 csX11_95 (wX11_has 1 (Nat.le_refl _) v6 x5 A hv) rfl (Nat.le_trans (m := 5) (by decide) hd) (Nat.le_of_ble_eq_true rfl) ?_
      clear hv
      obtain ⟨v8, A9, hq, h⟩ := ruB2_inv h
      have J : ruW E mmX11_sit d Q 163 [some (rurf E 83), some (.int x1), none, some (.int x3), some (.int v8), some (.int x5), none] [] A9 := by
          refine ru_iinc (x5 + (1 : Int32)) ddX11_sit_163 (by decide) rfl rfl rfl rfl ?_
          refine ru_goto 49 ddX11_sit_166 (by decide) ?_
          exact ih v8 (x5 + (1 : Int32)) A9 h
      replace h := hq
      clear hq
      refine ru_if_eq 91 ddX11_sit_67 (by decide) (fun hc => ?_) (fun hc => ?_)
      · rw [if_pos hc] at h
        refine ru_aload_n ddX11_sit_91 rfl ?_
        refine ru_iload_n ddX11_sit_92 rfl ?_
        refine ru_iconst (2 : Int32) ddX11_sit_93 rfl ?_
        obtain ⟨v10, hv, h⟩ := ruB_inv h
        refine ru_callVi (as := [.int x1, .int (2 : Int32)]) (st := []) ddX11_sit_94 cvX11_91 rfl (wX11_childOf 1 (Nat.le_refl _) x1 (2 : Int32) A hv) rfl (Nat.le_trans (m := 5) (by decide) hd) (Nat.le_of_ble_eq_true rfl) ?_
        clear hv
        refine ru_iload ddX11_sit_97 rfl ?_
        obtain ⟨v11, hv, h⟩ := ruB_inv h
        refine ru_callSi (as := [.int v10, .int x5]) (st := []) ddX11_sit_99 csX11_95 (wX11_has 1 (Nat.le_refl _) v10 x5 A hv) rfl (Nat.le_trans (m := 5) (by decide) hd) (Nat.le_of_ble_eq_true rfl) ?_
        clear hv
        refine ru_if_eq 126 ddX11_sit_102 (by decide) (fun hc => ?_) (fun hc => ?_)
        · rw [if_pos hc] at h
          refine ru_iload ddX11_sit_126 rfl ?_
          refine ru_ldc (v := (1103515245 : Int32)) ddX11_sit_128 ckX11_111 ?_
          refine ru_imul ddX11_sit_130 ?_
          refine ru_sipush (12345 : Int32) ddX11_sit_131 rfl ?_
          refine ru_iadd ddX11_sit_134 ?_
          refine ru_istore ddX11_sit_135 (by decide) rfl rfl ?_
          refine ru_iload ddX11_sit_137 rfl ?_
          refine ru_bipush (16 : Int32) ddX11_sit_139 rfl ?_
          refine ru_iushr2 ddX11_sit_141 ?_
          refine ru_iconst (5 : Int32) ddX11_sit_142 rfl ?_
          refine ru_irem ddX11_sit_143 (by decide) ?_
          refine ru_istore ddX11_sit_144 (by decide) rfl rfl ?_
          refine ru_iload ddX11_sit_146 rfl ?_
          refine ru_iconst (4 : Int32) ddX11_sit_148 rfl ?_
          refine ru_icmp_ge 163 ddX11_sit_149 (by decide) (fun hc => ?_) (fun hc => ?_)
          · rw [if_pos hc] at h
            refine ru_wk (L2 := [some (rurf E 83), some (.int x1), none, some (.int x3), some (.int ((x4 * (1103515245 : Int32)) + (12345 : Int32))), some (.int x5), none]) ⟨rfl, rfl, rfl, rfl, rfl, trivial⟩ ?_
            obtain ⟨rfl, rfl⟩ := ruS2 h
            exact J
          · rw [if_neg hc] at h
            refine ru_aload_n ddX11_sit_152 rfl ?_
            refine ru_iload_n ddX11_sit_153 rfl ?_
            refine ru_iload ddX11_sit_154 rfl ?_
            refine ru_bipush (7 : Int32) ddX11_sit_156 rfl ?_
            refine ru_iload ddX11_sit_158 rfl ?_
            obtain ⟨A12, hv, h⟩ := ruB_inv h
            refine ru_callVv (as := [.int x3, .int x5, .int (7 : Int32), .int ((ruushr ((x4 * (1103515245 : Int32)) + (12345 : Int32)) (16 : Int32)) - (ruushr ((x4 * (1103515245 : Int32)) + (12345 : Int32)) (16 : Int32)) / (5 : Int32) * (5 : Int32))]) (st := []) ddX11_sit_160 cvX11_107 rfl (wX11_put 1 (Nat.le_refl _) x3 x5 (7 : Int32) ((ruushr ((x4 * (1103515245 : Int32)) + (12345 : Int32)) (16 : Int32)) - (ruushr ((x4 * (1103515245 : Int32)) + (12345 : Int32)) (16 : Int32)) / (5 : Int32) * (5 : Int32)) A hv) rfl (Nat.le_trans (m := 5) (by decide) hd) (Nat.le_of_ble_eq_true rfl) ?_
            clear hv
            refine ru_wk (L2 := [some (rurf E 83), some (.int x1), none, some (.int x3), some (.int ((x4 * (1103515245 : Int32)) + (12345 : Int32))), some (.int x5), none]) ⟨rfl, rfl, rfl, rfl, rfl, trivial⟩ ?_
            obtain ⟨rfl, rfl⟩ := ruS2 h
            exact J
        · rw [if_neg hc] at h
          refine ru_aload_n ddX11_sit_105 rfl ?_
          refine ru_iload_n ddX11_sit_106 rfl ?_
          refine ru_iload ddX11_sit_107 rfl ?_
          refine ru_iconst (1 : Int32) ddX11_sit_109 rfl ?_
          refine ru_aload_n ddX11_sit_110 rfl ?_
          refine ru_getR (r := 84) ddX11_sit_111 flX11_9 rfl rfl ?_
          refine ru_bipush (8 : Int32) ddX11_sit_114 rfl ?_
          refine ru_iload ddX11_sit_116 rfl ?_
          refine ru_iadd ddX11_sit_118 ?_
          obtain ⟨v13, hv, h⟩ := ruB_inv h
          refine ru_iald ddX11_sit_119 rfl hv ?_
          clear hv
          obtain ⟨A14, hv, h⟩ := ruB_inv h
          refine ru_callVv (as := [.int x3, .int x5, .int (1 : Int32), .int v13]) (st := []) ddX11_sit_120 cvX11_107 rfl (wX11_put 1 (Nat.le_refl _) x3 x5 (1 : Int32) v13 A hv) rfl (Nat.le_trans (m := 5) (by decide) hd) (Nat.le_of_ble_eq_true rfl) ?_
          clear hv
          refine ru_goto 163 ddX11_sit_123 (by decide) ?_
          refine ru_wk (L2 := [some (rurf E 83), some (.int x1), none, some (.int x3), some (.int x4), some (.int x5), none]) ⟨rfl, rfl, rfl, rfl, rfl, trivial⟩ ?_
          obtain ⟨rfl, rfl⟩ := ruS2 h
          exact J
      · rw [if_neg hc] at h
        refine ru_aload_n ddX11_sit_70 rfl ?_
        refine ru_iload_n ddX11_sit_71 rfl ?_
        refine ru_iload ddX11_sit_72 rfl ?_
        refine ru_iconst (2 : Int32) ddX11_sit_74 rfl ?_
        refine ru_aload_n ddX11_sit_75 rfl ?_
        refine ru_getR (r := 84) ddX11_sit_76 flX11_9 rfl rfl ?_
        refine ru_bipush (8 : Int32) ddX11_sit_79 rfl ?_
        refine ru_iload ddX11_sit_81 rfl ?_
        refine ru_iadd ddX11_sit_83 ?_
        obtain ⟨v15, hv, h⟩ := ruB_inv h
        refine ru_iald ddX11_sit_84 rfl hv ?_
        clear hv
        obtain ⟨A16, hv, h⟩ := ruB_inv h
        refine ru_callVv (as := [.int x3, .int x5, .int (2 : Int32), .int v15]) (st := []) ddX11_sit_85 cvX11_107 rfl (wX11_put 1 (Nat.le_refl _) x3 x5 (2 : Int32) v15 A hv) rfl (Nat.le_trans (m := 5) (by decide) hd) (Nat.le_of_ble_eq_true rfl) ?_
        clear hv
        refine ru_goto 163 ddX11_sit_88 (by decide) ?_
        refine ru_wk (L2 := [some (rurf E 83), some (.int x1), none, some (.int x3), some (.int x4), some (.int x5), none]) ⟨rfl, rfl, rfl, rfl, rfl, trivial⟩ ?_
        obtain ⟨rfl, rfl⟩ := ruS2 h
        exact J
theorem wX11_sit {E : ruE} (d : Nat) (hd : 5 ≤ d) (x1 : Int32) (x2 : Int32) (A : ruA) {r : Int32} {B : ruA} (h : fX11_sit x1 x2 A = some (r, B)) : ruC E mmX11_sit d [rurf E 83, .int x1, .int x2] A (ruPr r B) := by
  refine ruC.of (L := [some (rurf E 83), some (.int x1), some (.int x2), none, none, none, none]) (by decide) rfl (Nat.le_of_ble_eq_true rfl) rfl ?_
  unfold fX11_sit at h
  refine ru_aload_n ddX11_sit_0 rfl ?_
  refine ru_iload_n ddX11_sit_1 rfl ?_
  refine ru_iconst (2 : Int32) ddX11_sit_2 rfl ?_
  obtain ⟨v1, hv, h⟩ := ruB_inv h
  refine ru_callVi (as := [.int x1, .int (2 : Int32)]) (st := []) ddX11_sit_3 cvX11_87 rfl (wX11_is 2 (Nat.le_refl _) x1 (2 : Int32) A hv) rfl (Nat.le_trans (m := 5) (by decide) hd) (Nat.le_of_ble_eq_true rfl) ?_
  clear hv
  refine ru_if_ne 16 ddX11_sit_6 (by decide) (fun hc => ?_) (fun hc => ?_)
  · rw [if_neg hc] at h
    refine ru_aload_n ddX11_sit_16 rfl ?_
    refine ru_iload_n ddX11_sit_17 rfl ?_
    refine ru_aload_n ddX11_sit_18 rfl ?_
    refine ru_getR (r := 84) ddX11_sit_19 flX11_9 rfl rfl ?_
    refine ru_iconst (0 : Int32) ddX11_sit_22 rfl ?_
    obtain ⟨v2, hv, h⟩ := ruB_inv h
    refine ru_iald ddX11_sit_23 rfl hv ?_
    clear hv
    obtain ⟨v3, hv, h⟩ := ruB_inv h
    refine ru_callVi (as := [.int x1, .int v2]) (st := []) ddX11_sit_24 cvX11_98 rfl (wX11_hasSheet 2 (Nat.le_refl _) x1 v2 A hv) rfl (Nat.le_trans (m := 5) (by decide) hd) (Nat.le_of_ble_eq_true rfl) ?_
    clear hv
    refine ru_if_eq 37 ddX11_sit_27 (by decide) (fun hc => ?_) (fun hc => ?_)
    · rw [if_pos hc] at h
      refine ru_aload_n ddX11_sit_37 rfl ?_
      refine ru_iload_n ddX11_sit_38 rfl ?_
      obtain ⟨v4, A5, hv, h⟩ := ruB2_inv h
      refine ru_callVi (as := [.int x1]) (st := []) ddX11_sit_39 cvX11_104 rfl (wX11_fresh 2 (Nat.le_refl _) x1 A hv) rfl (Nat.le_trans (m := 5) (by decide) hd) (Nat.le_of_ble_eq_true rfl) ?_
      clear hv
      refine ru_istore_n ddX11_sit_42 (by decide) rfl rfl ?_
      refine ru_iload_n ddX11_sit_43 rfl ?_
      refine ru_istore ddX11_sit_44 (by decide) rfl rfl ?_
      refine ru_iconst (0 : Int32) ddX11_sit_46 rfl ?_
      refine ru_istore ddX11_sit_47 (by decide) rfl rfl ?_
      refine ru_wk (L2 := [some (rurf E 83), some (.int x1), none, some (.int v4), some (.int x2), some (.int (0 : Int32)), none]) ⟨rfl, rfl, rfl, rfl, rfl, trivial⟩ ?_
      exact wX11_sit_l49 hd x1 v4 (fun A17 h => by
            refine ru_aload_n ddX11_sit_169 rfl ?_
            refine ru_iload_n ddX11_sit_170 rfl ?_
            refine ru_aload_n ddX11_sit_171 rfl ?_
            refine ru_getR (r := 84) ddX11_sit_172 flX11_9 rfl rfl ?_
            refine ru_iconst (0 : Int32) ddX11_sit_175 rfl ?_
            obtain ⟨v18, hv, h⟩ := ruB_inv h
            refine ru_iald ddX11_sit_176 rfl hv ?_
            clear hv
            obtain ⟨v19, hv, h⟩ := ruB_inv h
            refine ru_callVi (as := [.int x1, .int v18]) (st := []) ddX11_sit_177 cvX11_112 rfl (wX11_rights 4 (Nat.le_refl _) x1 v18 A17 hv) rfl (Nat.le_trans (m := 5) (by decide) hd) (Nat.le_of_ble_eq_true rfl) ?_
            clear hv
            exact ru_iretW ddX11_sit_180 rfl h) ruF x2 (0 : Int32) A5 h
    · rw [if_neg hc] at h
      refine ru_aload_n ddX11_sit_30 rfl ?_
      refine ru_ldc (v := (-1000005 : Int32)) ddX11_sit_31 ckX11_94 ?_
      obtain ⟨v20, A21, hv, h⟩ := ruB2_inv h
      refine ru_callVi (as := [.int (-1000005 : Int32)]) (st := []) ddX11_sit_33 cvX11_82 rfl (wX11_finding 1 (Nat.le_refl _) (-1000005 : Int32) A hv) rfl (Nat.le_trans (m := 5) (by decide) hd) (Nat.le_of_ble_eq_true rfl) ?_
      clear hv
      exact ru_iretW ddX11_sit_36 rfl h
  · rw [if_pos hc] at h
    refine ru_aload_n ddX11_sit_9 rfl ?_
    refine ru_ldc (v := (-1000001 : Int32)) ddX11_sit_10 ckX11_65 ?_
    obtain ⟨v22, A23, hv, h⟩ := ruB2_inv h
    refine ru_callVi (as := [.int (-1000001 : Int32)]) (st := []) ddX11_sit_12 cvX11_82 rfl (wX11_finding 1 (Nat.le_refl _) (-1000001 : Int32) A hv) rfl (Nat.le_trans (m := 5) (by decide) hd) (Nat.le_of_ble_eq_true rfl) ?_
    clear hv
    exact ru_iretW ddX11_sit_15 rfl h
theorem wX11_isSlip {E : ruE} (d : Nat) (hd : 2 ≤ d) (x0 : Int32) (A : ruA) {r : Int32} (h : fX11_isSlip x0 = some r) : ruC E mmX11_isSlip d [.int x0] A (ruPr r A) := by
  refine ruC.of (L := [some (.int x0)]) (by decide) rfl (Nat.le_of_ble_eq_true rfl) rfl ?_
  unfold fX11_isSlip at h
  refine ru_iload_n ddX11_isSlip_0 rfl ?_
  refine ru_iconst (0 : Int32) ddX11_isSlip_1 rfl ?_
  refine ru_iconst (3 : Int32) ddX11_isSlip_2 rfl ?_
  obtain ⟨v1, hv, h⟩ := ruB_inv h
  refine ru_callSi (as := [.int x0, .int (0 : Int32), .int (3 : Int32)]) (st := []) ddX11_isSlip_3 csX11_66 (wX11_within 1 (Nat.le_refl _) x0 (0 : Int32) (3 : Int32) A hv) rfl (Nat.le_trans (m := 2) (by decide) hd) (Nat.le_of_ble_eq_true rfl) ?_
  clear hv
  obtain ⟨_, hz, h⟩ := ruB_inv h
  exact ru_zretP ddX11_isSlip_6 rfl (rubz_eq hz) h
theorem wX11_read_l59 {E : ruE} {d : Nat} (hd : 5 ≤ d) {β : Type} {Q : Option Value → ruA → Prop} {res : β} (x1 : Int32) (x2 : Int32) (A : ruA) {k84 : Option (β)} {k97 : Option (β)} (hk84 : k84 = some res → ruW E mmX11_read d Q 84 [some (rurf E 83), none, none, none, none] [] A) (hk97 : k97 = some res → ruW E mmX11_read d Q 97 [some (rurf E 83), some (.int x1), some (.int x2), none, none] [] A) : ∀ (n : Nat) (x3 : Int32), fX11_read_l59 x1 x2 A k84 k97 n x3 = some res → ruW E mmX11_read d Q 59 [some (rurf E 83), some (.int x1), some (.int x2), some (.int x3), none] [] A := by
  intro n
  induction n with
  | zero =>
    intro x3 h
    exact absurd h (by rw [fX11_read_l59]; exact fun h => nomatch h)
  | succ n ih =>
    intro x3 h
    rw [fX11_read_l59] at h
    refine ru_iload_n ddX11_read_59 rfl ?_
    refine ru_bipush (12 : Int32) ddX11_read_60 rfl ?_
    refine ru_icmp_ge 97 ddX11_read_62 (by decide) (fun hc => ?_) (fun hc => ?_)
    · rw [if_pos hc] at h
      refine ru_wk (L2 := [some (rurf E 83), some (.int x1), some (.int x2), none, none]) ⟨rfl, rfl, rfl, trivial⟩ ?_
      exact hk97 h
    · rw [if_neg hc] at h
      refine ru_aload_n ddX11_read_65 rfl ?_
      refine ru_getR (r := 90) ddX11_read_66 flX11_28 rfl rfl ?_
      refine ru_bipush (24 : Int32) ddX11_read_69 rfl ?_
      refine ru_iload_n ddX11_read_71 rfl ?_
      refine ru_imul ddX11_read_72 ?_
      refine ru_iload_n ddX11_read_73 rfl ?_
      refine ru_iadd ddX11_read_74 ?_
      obtain ⟨v7, hv, h⟩ := ruB_inv h
      refine ru_iald ddX11_read_75 rfl hv ?_
      clear hv
      refine ru_iconst (-1 : Int32) ddX11_read_76 rfl ?_
      refine ru_iconst (3 : Int32) ddX11_read_77 rfl ?_
      obtain ⟨v8, hv, h⟩ := ruB_inv h
      refine ru_callSi (as := [.int v7, .int (-1 : Int32), .int (3 : Int32)]) (st := []) ddX11_read_78 csX11_66 (wX11_within 1 (Nat.le_refl _) v7 (-1 : Int32) (3 : Int32) A hv) rfl (Nat.le_trans (m := 5) (by decide) hd) (Nat.le_of_ble_eq_true rfl) ?_
      clear hv
      refine ru_if_ne 91 ddX11_read_81 (by decide) (fun hc => ?_) (fun hc => ?_)
      · rw [if_neg hc] at h
        refine ru_iinc (x3 + (1 : Int32)) ddX11_read_91 (by decide) rfl rfl rfl rfl ?_
        refine ru_goto 59 ddX11_read_94 (by decide) ?_
        exact ih (x3 + (1 : Int32)) h
      · rw [if_pos hc] at h
        refine ru_wk (L2 := [some (rurf E 83), none, none, none, none]) ⟨rfl, trivial⟩ ?_
        exact hk84 h
theorem wX11_read_l127 {E : ruE} {d : Nat} (hd : 5 ≤ d) {β : Type} {Q : Option Value → ruA → Prop} {res : β} (x1 : Int32) (x2 : Int32) (x3 : Int32) {k160 : ruA → Option (β)} (hk160 : ∀ (A : ruA), k160 A = some res → ruW E mmX11_read d Q 160 [some (rurf E 83), some (.int x1), none, none, none] [] A) : ∀ (n : Nat) (x4 : Int32) (A : ruA), fX11_read_l127 x1 x2 x3 k160 n x4 A = some res → ruW E mmX11_read d Q 127 [some (rurf E 83), some (.int x1), some (.int x2), some (.int x3), some (.int x4)] [] A := by
  intro n
  induction n with
  | zero =>
    intro x4 A h
    exact absurd h (by rw [fX11_read_l127]; exact fun h => nomatch h)
  | succ n ih =>
    intro x4 A h
    rw [fX11_read_l127] at h
    refine ru_iload ddX11_read_127 rfl ?_
    refine ru_bipush (12 : Int32) ddX11_read_129 rfl ?_
    refine ru_icmp_ge 160 ddX11_read_131 (by decide) (fun hc => ?_) (fun hc => ?_)
    · rw [if_pos hc] at h
      refine ru_wk (L2 := [some (rurf E 83), some (.int x1), none, none, none]) ⟨rfl, rfl, trivial⟩ ?_
      exact hk160 A h
    · rw [if_neg hc] at h
      refine ru_aload_n ddX11_read_134 rfl ?_
      refine ru_iload_n ddX11_read_135 rfl ?_
      refine ru_iload ddX11_read_136 rfl ?_
      refine ru_iconst (0 : Int32) ddX11_read_138 rfl ?_
      refine ru_aload_n ddX11_read_139 rfl ?_
      refine ru_getR (r := 90) ddX11_read_140 flX11_28 rfl rfl ?_
      refine ru_bipush (24 : Int32) ddX11_read_143 rfl ?_
      refine ru_iload_n ddX11_read_145 rfl ?_
      refine ru_imul ddX11_read_146 ?_
      refine ru_iload ddX11_read_147 rfl ?_
      refine ru_iadd ddX11_read_149 ?_
      obtain ⟨v15, hv, h⟩ := ruB_inv h
      refine ru_iald ddX11_read_150 rfl hv ?_
      clear hv
      obtain ⟨A16, hv, h⟩ := ruB_inv h
      refine ru_callVv (as := [.int x3, .int x4, .int (0 : Int32), .int v15]) (st := []) ddX11_read_151 cvX11_107 rfl (wX11_put 1 (Nat.le_refl _) x3 x4 (0 : Int32) v15 A hv) rfl (Nat.le_trans (m := 5) (by decide) hd) (Nat.le_of_ble_eq_true rfl) ?_
      clear hv
      refine ru_iinc (x4 + (1 : Int32)) ddX11_read_154 (by decide) rfl rfl rfl rfl ?_
      refine ru_goto 127 ddX11_read_157 (by decide) ?_
      exact ih (x4 + (1 : Int32)) A16 h
theorem wX11_read {E : ruE} (d : Nat) (hd : 5 ≤ d) (x1 : Int32) (x2 : Int32) (A : ruA) {r : Int32} {B : ruA} (h : fX11_read x1 x2 A = some (r, B)) : ruC E mmX11_read d [rurf E 83, .int x1, .int x2] A (ruPr r B) := by
  refine ruC.of (L := [some (rurf E 83), some (.int x1), some (.int x2), none, none]) (by decide) rfl (Nat.le_of_ble_eq_true rfl) rfl ?_
  unfold fX11_read at h
  refine ru_aload_n ddX11_read_0 rfl ?_
  refine ru_iload_n ddX11_read_1 rfl ?_
  refine ru_iconst (2 : Int32) ddX11_read_2 rfl ?_
  obtain ⟨v1, hv, h⟩ := ruB_inv h
  refine ru_callVi (as := [.int x1, .int (2 : Int32)]) (st := []) ddX11_read_3 cvX11_87 rfl (wX11_is 2 (Nat.le_refl _) x1 (2 : Int32) A hv) rfl (Nat.le_trans (m := 5) (by decide) hd) (Nat.le_of_ble_eq_true rfl) ?_
  clear hv
  refine ru_if_eq 16 ddX11_read_6 (by decide) (fun hc => ?_) (fun hc => ?_)
  · rw [if_pos hc] at h
    refine ru_aload_n ddX11_read_16 rfl ?_
    refine ru_ldc (v := (-1000001 : Int32)) ddX11_read_17 ckX11_65 ?_
    obtain ⟨v2, A3, hv, h⟩ := ruB2_inv h
    refine ru_callVi (as := [.int (-1000001 : Int32)]) (st := []) ddX11_read_19 cvX11_82 rfl (wX11_finding 1 (Nat.le_refl _) (-1000001 : Int32) A hv) rfl (Nat.le_trans (m := 5) (by decide) hd) (Nat.le_of_ble_eq_true rfl) ?_
    clear hv
    exact ru_iretW ddX11_read_22 rfl h
  · rw [if_neg hc] at h
    refine ru_iload_n ddX11_read_9 rfl ?_
    obtain ⟨v4, hv, h⟩ := ruB_inv h
    refine ru_callSi (as := [.int x2]) (st := []) ddX11_read_10 csX11_115 (wX11_isSlip 2 (Nat.le_refl _) x2 A hv) rfl (Nat.le_trans (m := 5) (by decide) hd) (Nat.le_of_ble_eq_true rfl) ?_
    clear hv
    refine ru_if_ne 23 ddX11_read_13 (by decide) (fun hc => ?_) (fun hc => ?_)
    · rw [if_neg hc] at h
      refine ru_aload_n ddX11_read_23 rfl ?_
      refine ru_getR (r := 88) ddX11_read_24 flX11_22 rfl rfl ?_
      refine ru_iload_n ddX11_read_27 rfl ?_
      obtain ⟨v5, hv, h⟩ := ruB_inv h
      refine ru_iald ddX11_read_28 rfl hv ?_
      clear hv
      refine ru_if_ne 39 ddX11_read_29 (by decide) (fun hc => ?_) (fun hc => ?_)
      · rw [if_neg hc] at h
        refine ru_aload_n ddX11_read_39 rfl ?_
        refine ru_getR (r := 89) ddX11_read_40 flX11_25 rfl rfl ?_
        refine ru_iload_n ddX11_read_43 rfl ?_
        obtain ⟨v6, hv, h⟩ := ruB_inv h
        refine ru_iald ddX11_read_44 rfl hv ?_
        clear hv
        refine ru_bipush (12 : Int32) ddX11_read_45 rfl ?_
        refine ru_icmp_eq 57 ddX11_read_47 (by decide) (fun hc => ?_) (fun hc => ?_)
        · rw [if_pos hc] at h
          refine ru_iconst (0 : Int32) ddX11_read_57 rfl ?_
          refine ru_istore_n ddX11_read_58 (by decide) rfl rfl ?_
          exact wX11_read_l59 hd x1 x2 A (fun h => by
                refine ru_aload_n ddX11_read_84 rfl ?_
                refine ru_ldc (v := (-1000001 : Int32)) ddX11_read_85 ckX11_65 ?_
                obtain ⟨v9, A10, hv, h⟩ := ruB2_inv h
                refine ru_callVi (as := [.int (-1000001 : Int32)]) (st := []) ddX11_read_87 cvX11_82 rfl (wX11_finding 1 (Nat.le_refl _) (-1000001 : Int32) A hv) rfl (Nat.le_trans (m := 5) (by decide) hd) (Nat.le_of_ble_eq_true rfl) ?_
                clear hv
                exact ru_iretW ddX11_read_90 rfl h) (fun h => by
                refine ru_aload_n ddX11_read_97 rfl ?_
                refine ru_iload_n ddX11_read_98 rfl ?_
                refine ru_aload_n ddX11_read_99 rfl ?_
                refine ru_getR (r := 84) ddX11_read_100 flX11_9 rfl rfl ?_
                refine ru_iconst (0 : Int32) ddX11_read_103 rfl ?_
                obtain ⟨v11, hv, h⟩ := ruB_inv h
                refine ru_iald ddX11_read_104 rfl hv ?_
                clear hv
                obtain ⟨v12, hv, h⟩ := ruB_inv h
                refine ru_callVi (as := [.int x1, .int v11]) (st := []) ddX11_read_105 cvX11_98 rfl (wX11_hasSheet 2 (Nat.le_refl _) x1 v11 A hv) rfl (Nat.le_trans (m := 5) (by decide) hd) (Nat.le_of_ble_eq_true rfl) ?_
                clear hv
                refine ru_if_eq 118 ddX11_read_108 (by decide) (fun hc => ?_) (fun hc => ?_)
                · rw [if_pos hc] at h
                  refine ru_aload_n ddX11_read_118 rfl ?_
                  refine ru_iload_n ddX11_read_119 rfl ?_
                  obtain ⟨v13, A14, hv, h⟩ := ruB2_inv h
                  refine ru_callVi (as := [.int x1]) (st := []) ddX11_read_120 cvX11_104 rfl (wX11_fresh 2 (Nat.le_refl _) x1 A hv) rfl (Nat.le_trans (m := 5) (by decide) hd) (Nat.le_of_ble_eq_true rfl) ?_
                  clear hv
                  refine ru_istore_n ddX11_read_123 (by decide) rfl rfl ?_
                  refine ru_iconst (0 : Int32) ddX11_read_124 rfl ?_
                  refine ru_istore ddX11_read_125 (by decide) rfl rfl ?_
                  exact wX11_read_l127 hd x1 x2 v13 (fun A17 h => by
                        refine ru_aload_n ddX11_read_160 rfl ?_
                        refine ru_iload_n ddX11_read_161 rfl ?_
                        refine ru_aload_n ddX11_read_162 rfl ?_
                        refine ru_getR (r := 84) ddX11_read_163 flX11_9 rfl rfl ?_
                        refine ru_iconst (0 : Int32) ddX11_read_166 rfl ?_
                        obtain ⟨v18, hv, h⟩ := ruB_inv h
                        refine ru_iald ddX11_read_167 rfl hv ?_
                        clear hv
                        obtain ⟨v19, hv, h⟩ := ruB_inv h
                        refine ru_callVi (as := [.int x1, .int v18]) (st := []) ddX11_read_168 cvX11_112 rfl (wX11_rights 4 (Nat.le_refl _) x1 v18 A17 hv) rfl (Nat.le_trans (m := 5) (by decide) hd) (Nat.le_of_ble_eq_true rfl) ?_
                        clear hv
                        exact ru_iretW ddX11_read_171 rfl h) ruF (0 : Int32) A14 h
                · rw [if_neg hc] at h
                  refine ru_aload_n ddX11_read_111 rfl ?_
                  refine ru_ldc (v := (-1000005 : Int32)) ddX11_read_112 ckX11_94 ?_
                  obtain ⟨v20, A21, hv, h⟩ := ruB2_inv h
                  refine ru_callVi (as := [.int (-1000005 : Int32)]) (st := []) ddX11_read_114 cvX11_82 rfl (wX11_finding 1 (Nat.le_refl _) (-1000005 : Int32) A hv) rfl (Nat.le_trans (m := 5) (by decide) hd) (Nat.le_of_ble_eq_true rfl) ?_
                  clear hv
                  exact ru_iretW ddX11_read_117 rfl h) ruF (0 : Int32) h
        · rw [if_neg hc] at h
          refine ru_aload_n ddX11_read_50 rfl ?_
          refine ru_ldc (v := (-1000007 : Int32)) ddX11_read_51 ckX11_119 ?_
          obtain ⟨v22, A23, hv, h⟩ := ruB2_inv h
          refine ru_callVi (as := [.int (-1000007 : Int32)]) (st := []) ddX11_read_53 cvX11_82 rfl (wX11_finding 1 (Nat.le_refl _) (-1000007 : Int32) A hv) rfl (Nat.le_trans (m := 5) (by decide) hd) (Nat.le_of_ble_eq_true rfl) ?_
          clear hv
          exact ru_iretW ddX11_read_56 rfl h
      · rw [if_pos hc] at h
        refine ru_aload_n ddX11_read_32 rfl ?_
        refine ru_ldc (v := (-1000006 : Int32)) ddX11_read_33 ckX11_118 ?_
        obtain ⟨v24, A25, hv, h⟩ := ruB2_inv h
        refine ru_callVi (as := [.int (-1000006 : Int32)]) (st := []) ddX11_read_35 cvX11_82 rfl (wX11_finding 1 (Nat.le_refl _) (-1000006 : Int32) A hv) rfl (Nat.le_trans (m := 5) (by decide) hd) (Nat.le_of_ble_eq_true rfl) ?_
        clear hv
        exact ru_iretW ddX11_read_38 rfl h
    · rw [if_pos hc] at h
      refine ru_aload_n ddX11_read_16 rfl ?_
      refine ru_ldc (v := (-1000001 : Int32)) ddX11_read_17 ckX11_65 ?_
      obtain ⟨v26, A27, hv, h⟩ := ruB2_inv h
      refine ru_callVi (as := [.int (-1000001 : Int32)]) (st := []) ddX11_read_19 cvX11_82 rfl (wX11_finding 1 (Nat.le_refl _) (-1000001 : Int32) A hv) rfl (Nat.le_trans (m := 5) (by decide) hd) (Nat.le_of_ble_eq_true rfl) ?_
      clear hv
      exact ru_iretW ddX11_read_22 rfl h
theorem wX11_marks {E : ruE} (d : Nat) (hd : 2 ≤ d) (x1 : Int32) (x2 : Int32) (x3 : Int32) (x4 : Int32) (A : ruA) {r : Int32} {B : ruA} (h : fX11_marks x1 x2 x3 x4 A = some (r, B)) : ruC E mmX11_marks d [rurf E 83, .int x1, .int x2, .int x3, .int x4] A (ruPr r B) := by
  refine ruC.of (L := [some (rurf E 83), some (.int x1), some (.int x2), some (.int x3), some (.int x4), none, none, none, none]) (by decide) rfl (Nat.le_of_ble_eq_true rfl) rfl ?_
  unfold fX11_marks at h
  refine ru_iload_n ddX11_marks_0 rfl ?_
  refine ru_aload_n ddX11_marks_1 rfl ?_
  refine ru_getR (r := 84) ddX11_marks_2 flX11_9 rfl rfl ?_
  refine ru_iconst (0 : Int32) ddX11_marks_5 rfl ?_
  obtain ⟨v1, hv, h⟩ := ruB_inv h
  refine ru_iald ddX11_marks_6 rfl hv ?_
  clear hv
  obtain ⟨v2, hv, h⟩ := ruB_inv h
  refine ru_callSi (as := [.int x1, .int v1]) (st := []) ddX11_marks_7 csX11_70 (wX11_sheetAt 1 (Nat.le_refl _) x1 v1 A hv) rfl (Nat.le_trans (m := 2) (by decide) hd) (Nat.le_of_ble_eq_true rfl) ?_
  clear hv
  refine ru_istore ddX11_marks_10 (by decide) rfl rfl ?_
  refine ru_aload_n ddX11_marks_12 rfl ?_
  refine ru_getR (r := 84) ddX11_marks_13 flX11_9 rfl rfl ?_
  refine ru_iload ddX11_marks_16 rfl ?_
  refine ru_iconst (1 : Int32) ddX11_marks_18 rfl ?_
  refine ru_iadd ddX11_marks_19 ?_
  refine ru_iload_n ddX11_marks_20 rfl ?_
  refine ru_iadd ddX11_marks_21 ?_
  obtain ⟨v3, hv, h⟩ := ruB_inv h
  refine ru_iald ddX11_marks_22 rfl hv ?_
  clear hv
  refine ru_istore ddX11_marks_23 (by decide) rfl rfl ?_
  refine ru_iload ddX11_marks_25 rfl ?_
  refine ru_iload ddX11_marks_27 rfl ?_
  refine ru_icmp_ne 34 ddX11_marks_29 (by decide) (fun hc => ?_) (fun hc => ?_)
  · rw [if_neg hc] at h
    refine ru_iload ddX11_marks_34 rfl ?_
    refine ru_iconst (-1 : Int32) ddX11_marks_36 rfl ?_
    obtain ⟨A4, hq, h⟩ := ruB_inv h
    have J : ruW E mmX11_marks d (ruPr r B) 93 [some (rurf E 83), none, some (.int x2), some (.int x3), some (.int x4), some (.int v2), none, none, none] [] A4 := by
        refine ru_aload_n ddX11_marks_93 rfl ?_
        refine ru_iload ddX11_marks_94 rfl ?_
        refine ru_iload_n ddX11_marks_96 rfl ?_
        refine ru_iload_n ddX11_marks_97 rfl ?_
        refine ru_iload ddX11_marks_98 rfl ?_
        obtain ⟨A9, hv, h⟩ := ruB_inv h
        refine ru_callVv (as := [.int v2, .int x2, .int x3, .int x4]) (st := []) ddX11_marks_100 cvX11_107 rfl (wX11_put 1 (Nat.le_refl _) v2 x2 x3 x4 A4 hv) rfl (Nat.le_trans (m := 2) (by decide) hd) (Nat.le_of_ble_eq_true rfl) ?_
        clear hv
        refine ru_iconst (1 : Int32) ddX11_marks_103 rfl ?_
        exact ru_zretW ddX11_marks_104 rfl (Or.inr rfl) h
    replace h := hq
    clear hq
    refine ru_icmp_eq 93 ddX11_marks_37 (by decide) (fun hc => ?_) (fun hc => ?_)
    · rw [if_pos hc] at h
      refine ru_wk (L2 := [some (rurf E 83), none, some (.int x2), some (.int x3), some (.int x4), some (.int v2), none, none, none]) ⟨rfl, rfl, rfl, rfl, rfl, trivial⟩ ?_
      obtain rfl := ruS1 h
      exact J
    · rw [if_neg hc] at h
      refine ru_aload_n ddX11_marks_40 rfl ?_
      refine ru_getR (r := 84) ddX11_marks_41 flX11_9 rfl rfl ?_
      refine ru_bipush (8 : Int32) ddX11_marks_44 rfl ?_
      refine ru_iload_n ddX11_marks_46 rfl ?_
      refine ru_iadd ddX11_marks_47 ?_
      obtain ⟨v5, hv, h⟩ := ruB_inv h
      refine ru_iald ddX11_marks_48 rfl hv ?_
      clear hv
      refine ru_istore ddX11_marks_49 (by decide) rfl rfl ?_
      refine ru_iload ddX11_marks_51 rfl ?_
      refine ru_iload ddX11_marks_53 rfl ?_
      obtain ⟨v6, hq, h⟩ := ruB_inv h
      have J : ruW E mmX11_marks d (ruPr r B) 74 [some (rurf E 83), none, some (.int x2), some (.int x3), some (.int x4), some (.int v2), none, none, none] [.int v6] A := by
          refine ru_istore ddX11_marks_74 (by decide) rfl rfl ?_
          refine ru_aload_n ddX11_marks_76 rfl ?_
          refine ru_getR (r := 84) ddX11_marks_77 flX11_9 rfl rfl ?_
          refine ru_iload ddX11_marks_80 rfl ?_
          refine ru_bipush (25 : Int32) ddX11_marks_82 rfl ?_
          refine ru_iadd ddX11_marks_84 ?_
          refine ru_iload ddX11_marks_85 rfl ?_
          refine ru_iadd ddX11_marks_87 ?_
          refine ru_dup2 ddX11_marks_88 rfl rfl ?_
          obtain ⟨v7, hv, h⟩ := ruB_inv h
          refine ru_iald ddX11_marks_89 rfl hv ?_
          clear hv
          refine ru_iconst (1 : Int32) ddX11_marks_90 rfl ?_
          refine ru_iadd ddX11_marks_91 ?_
          obtain ⟨A8, hv, h⟩ := ruB_inv h
          refine ru_iast ddX11_marks_92 rfl hv ?_
          clear hv
          refine ru_wk (L2 := [some (rurf E 83), none, some (.int x2), some (.int x3), some (.int x4), some (.int v2), none, none, none]) ⟨rfl, rfl, rfl, rfl, rfl, trivial⟩ ?_
          obtain rfl := ruS1 h
          exact J
      replace h := hq
      clear hq
      refine ru_icmp_ne 62 ddX11_marks_55 (by decide) (fun hc => ?_) (fun hc => ?_)
      · rw [if_neg hc] at h
        refine ru_iload ddX11_marks_62 rfl ?_
        refine ru_iload ddX11_marks_64 rfl ?_
        refine ru_icmp_ne 73 ddX11_marks_66 (by decide) (fun hc => ?_) (fun hc => ?_)
        · rw [if_neg hc] at h
          refine ru_iconst (2 : Int32) ddX11_marks_73 rfl ?_
          refine ru_wk (L2 := [some (rurf E 83), none, some (.int x2), some (.int x3), some (.int x4), some (.int v2), none, none, none]) ⟨rfl, rfl, rfl, rfl, rfl, trivial⟩ ?_
          obtain rfl := ruS1 h
          exact J
        · rw [if_pos hc] at h
          refine ru_iconst (1 : Int32) ddX11_marks_69 rfl ?_
          refine ru_goto 74 ddX11_marks_70 (by decide) ?_
          refine ru_wk (L2 := [some (rurf E 83), none, some (.int x2), some (.int x3), some (.int x4), some (.int v2), none, none, none]) ⟨rfl, rfl, rfl, rfl, rfl, trivial⟩ ?_
          obtain rfl := ruS1 h
          exact J
      · rw [if_pos hc] at h
        refine ru_iconst (0 : Int32) ddX11_marks_58 rfl ?_
        refine ru_goto 74 ddX11_marks_59 (by decide) ?_
        refine ru_wk (L2 := [some (rurf E 83), none, some (.int x2), some (.int x3), some (.int x4), some (.int v2), none, none, none]) ⟨rfl, rfl, rfl, rfl, rfl, trivial⟩ ?_
        obtain rfl := ruS1 h
        exact J
  · rw [if_pos hc] at h
    refine ru_iconst (0 : Int32) ddX11_marks_32 rfl ?_
    exact ru_zretW ddX11_marks_33 rfl (Or.inl rfl) h
theorem wX11_mark {E : ruE} (d : Nat) (hd : 3 ≤ d) (x1 : Int32) (x2 : Int32) (x3 : Int32) (x4 : Int32) (A : ruA) {r : Int32} {B : ruA} (h : fX11_mark x1 x2 x3 x4 A = some (r, B)) : ruC E mmX11_mark d [rurf E 83, .int x1, .int x2, .int x3, .int x4] A (ruPr r B) := by
  refine ruC.of (L := [some (rurf E 83), some (.int x1), some (.int x2), some (.int x3), some (.int x4)]) (by decide) rfl (Nat.le_of_ble_eq_true rfl) rfl ?_
  unfold fX11_mark at h
  refine ru_aload_n ddX11_mark_0 rfl ?_
  refine ru_iload_n ddX11_mark_1 rfl ?_
  refine ru_iconst (2 : Int32) ddX11_mark_2 rfl ?_
  obtain ⟨v1, hv, h⟩ := ruB_inv h
  refine ru_callVi (as := [.int x1, .int (2 : Int32)]) (st := []) ddX11_mark_3 cvX11_87 rfl (wX11_is 2 (Nat.le_refl _) x1 (2 : Int32) A hv) rfl (Nat.le_trans (m := 3) (by decide) hd) (Nat.le_of_ble_eq_true rfl) ?_
  clear hv
  refine ru_if_eq 36 ddX11_mark_6 (by decide) (fun hc => ?_) (fun hc => ?_)
  · rw [if_pos hc] at h
    refine ru_aload_n ddX11_mark_36 rfl ?_
    refine ru_ldc (v := (-1000001 : Int32)) ddX11_mark_37 ckX11_65 ?_
    obtain ⟨v2, A3, hv, h⟩ := ruB2_inv h
    refine ru_callVi (as := [.int (-1000001 : Int32)]) (st := []) ddX11_mark_39 cvX11_82 rfl (wX11_finding 1 (Nat.le_refl _) (-1000001 : Int32) A hv) rfl (Nat.le_trans (m := 3) (by decide) hd) (Nat.le_of_ble_eq_true rfl) ?_
    clear hv
    exact ru_iretW ddX11_mark_42 rfl h
  · rw [if_neg hc] at h
    refine ru_iload_n ddX11_mark_9 rfl ?_
    obtain ⟨v4, hv, h⟩ := ruB_inv h
    refine ru_callSi (as := [.int x2]) (st := []) ddX11_mark_10 csX11_78 (wX11_isQuestion 2 (Nat.le_refl _) x2 A hv) rfl (Nat.le_trans (m := 3) (by decide) hd) (Nat.le_of_ble_eq_true rfl) ?_
    clear hv
    refine ru_if_eq 36 ddX11_mark_13 (by decide) (fun hc => ?_) (fun hc => ?_)
    · rw [if_pos hc] at h
      refine ru_aload_n ddX11_mark_36 rfl ?_
      refine ru_ldc (v := (-1000001 : Int32)) ddX11_mark_37 ckX11_65 ?_
      obtain ⟨v5, A6, hv, h⟩ := ruB2_inv h
      refine ru_callVi (as := [.int (-1000001 : Int32)]) (st := []) ddX11_mark_39 cvX11_82 rfl (wX11_finding 1 (Nat.le_refl _) (-1000001 : Int32) A hv) rfl (Nat.le_trans (m := 3) (by decide) hd) (Nat.le_of_ble_eq_true rfl) ?_
      clear hv
      exact ru_iretW ddX11_mark_42 rfl h
    · rw [if_neg hc] at h
      refine ru_iload_n ddX11_mark_16 rfl ?_
      refine ru_iconst (0 : Int32) ddX11_mark_17 rfl ?_
      refine ru_bipush (7 : Int32) ddX11_mark_18 rfl ?_
      obtain ⟨v7, hv, h⟩ := ruB_inv h
      refine ru_callSi (as := [.int x3, .int (0 : Int32), .int (7 : Int32)]) (st := []) ddX11_mark_20 csX11_66 (wX11_within 1 (Nat.le_refl _) x3 (0 : Int32) (7 : Int32) A hv) rfl (Nat.le_trans (m := 3) (by decide) hd) (Nat.le_of_ble_eq_true rfl) ?_
      clear hv
      refine ru_if_eq 36 ddX11_mark_23 (by decide) (fun hc => ?_) (fun hc => ?_)
      · rw [if_pos hc] at h
        refine ru_aload_n ddX11_mark_36 rfl ?_
        refine ru_ldc (v := (-1000001 : Int32)) ddX11_mark_37 ckX11_65 ?_
        obtain ⟨v8, A9, hv, h⟩ := ruB2_inv h
        refine ru_callVi (as := [.int (-1000001 : Int32)]) (st := []) ddX11_mark_39 cvX11_82 rfl (wX11_finding 1 (Nat.le_refl _) (-1000001 : Int32) A hv) rfl (Nat.le_trans (m := 3) (by decide) hd) (Nat.le_of_ble_eq_true rfl) ?_
        clear hv
        exact ru_iretW ddX11_mark_42 rfl h
      · rw [if_neg hc] at h
        refine ru_iload ddX11_mark_26 rfl ?_
        refine ru_iconst (-1 : Int32) ddX11_mark_28 rfl ?_
        refine ru_iconst (3 : Int32) ddX11_mark_29 rfl ?_
        obtain ⟨v10, hv, h⟩ := ruB_inv h
        refine ru_callSi (as := [.int x4, .int (-1 : Int32), .int (3 : Int32)]) (st := []) ddX11_mark_30 csX11_66 (wX11_within 1 (Nat.le_refl _) x4 (-1 : Int32) (3 : Int32) A hv) rfl (Nat.le_trans (m := 3) (by decide) hd) (Nat.le_of_ble_eq_true rfl) ?_
        clear hv
        refine ru_if_ne 43 ddX11_mark_33 (by decide) (fun hc => ?_) (fun hc => ?_)
        · rw [if_neg hc] at h
          refine ru_aload_n ddX11_mark_43 rfl ?_
          refine ru_iload_n ddX11_mark_44 rfl ?_
          refine ru_aload_n ddX11_mark_45 rfl ?_
          refine ru_getR (r := 84) ddX11_mark_46 flX11_9 rfl rfl ?_
          refine ru_iconst (0 : Int32) ddX11_mark_49 rfl ?_
          obtain ⟨v11, hv, h⟩ := ruB_inv h
          refine ru_iald ddX11_mark_50 rfl hv ?_
          clear hv
          obtain ⟨v12, hv, h⟩ := ruB_inv h
          refine ru_callVi (as := [.int x1, .int v11]) (st := []) ddX11_mark_51 cvX11_98 rfl (wX11_hasSheet 2 (Nat.le_refl _) x1 v11 A hv) rfl (Nat.le_trans (m := 3) (by decide) hd) (Nat.le_of_ble_eq_true rfl) ?_
          clear hv
          refine ru_if_ne 64 ddX11_mark_54 (by decide) (fun hc => ?_) (fun hc => ?_)
          · rw [if_neg hc] at h
            refine ru_aload_n ddX11_mark_64 rfl ?_
            refine ru_iload_n ddX11_mark_65 rfl ?_
            refine ru_iload_n ddX11_mark_66 rfl ?_
            refine ru_iload_n ddX11_mark_67 rfl ?_
            refine ru_iload ddX11_mark_68 rfl ?_
            obtain ⟨v13, A14, hv, h⟩ := ruB2_inv h
            refine ru_callVi (as := [.int x1, .int x2, .int x3, .int x4]) (st := []) ddX11_mark_70 cvX11_120 rfl (wX11_marks 2 (Nat.le_refl _) x1 x2 x3 x4 A hv) rfl (Nat.le_trans (m := 3) (by decide) hd) (Nat.le_of_ble_eq_true rfl) ?_
            clear hv
            refine ru_if_eq 80 ddX11_mark_73 (by decide) (fun hc => ?_) (fun hc => ?_)
            · rw [if_pos hc] at h
              refine ru_iconst (0 : Int32) ddX11_mark_80 rfl ?_
              exact ru_iretW ddX11_mark_81 rfl h
            · rw [if_neg hc] at h
              refine ru_iconst (1 : Int32) ddX11_mark_76 rfl ?_
              refine ru_goto 81 ddX11_mark_77 (by decide) ?_
              exact ru_iretW ddX11_mark_81 rfl h
          · rw [if_pos hc] at h
            refine ru_aload_n ddX11_mark_57 rfl ?_
            refine ru_ldc (v := (-1000005 : Int32)) ddX11_mark_58 ckX11_94 ?_
            obtain ⟨v15, A16, hv, h⟩ := ruB2_inv h
            refine ru_callVi (as := [.int (-1000005 : Int32)]) (st := []) ddX11_mark_60 cvX11_82 rfl (wX11_finding 1 (Nat.le_refl _) (-1000005 : Int32) A hv) rfl (Nat.le_trans (m := 3) (by decide) hd) (Nat.le_of_ble_eq_true rfl) ?_
            clear hv
            exact ru_iretW ddX11_mark_63 rfl h
        · rw [if_pos hc] at h
          refine ru_aload_n ddX11_mark_36 rfl ?_
          refine ru_ldc (v := (-1000001 : Int32)) ddX11_mark_37 ckX11_65 ?_
          obtain ⟨v17, A18, hv, h⟩ := ruB2_inv h
          refine ru_callVi (as := [.int (-1000001 : Int32)]) (st := []) ddX11_mark_39 cvX11_82 rfl (wX11_finding 1 (Nat.le_refl _) (-1000001 : Int32) A hv) rfl (Nat.le_trans (m := 3) (by decide) hd) (Nat.le_of_ble_eq_true rfl) ?_
          clear hv
          exact ru_iretW ddX11_mark_42 rfl h
theorem wX11_copies_l117 {E : ruE} {d : Nat} (hd : 3 ≤ d) {β : Type} {Q : Option Value → ruA → Prop} {res : β} (x1 : Int32) (x2 : Int32) (x3 : Int32) {k171 : Int32 → ruA → Option (β)} (hk171 : ∀ (x6 : Int32) (A : ruA), k171 x6 A = some res → ruW E mmX11_copies d Q 171 [none, none, none, none, none, none, some (.int x6), none] [] A) : ∀ (n : Nat) (x6 : Int32) (x7 : Int32) (A : ruA), fX11_copies_l117 x1 x2 x3 k171 n x6 x7 A = some res → ruW E mmX11_copies d Q 117 [some (rurf E 83), some (.int x1), some (.int x2), some (.int x3), none, none, some (.int x6), some (.int x7)] [] A := by
  intro n
  induction n with
  | zero =>
    intro x6 x7 A h
    exact absurd h (by rw [fX11_copies_l117]; exact fun h => nomatch h)
  | succ n ih =>
    intro x6 x7 A h
    rw [fX11_copies_l117] at h
    refine ru_iload ddX11_copies_117 rfl ?_
    refine ru_bipush (12 : Int32) ddX11_copies_119 rfl ?_
    refine ru_icmp_ge 171 ddX11_copies_121 (by decide) (fun hc => ?_) (fun hc => ?_)
    · rw [if_pos hc] at h
      refine ru_wk (L2 := [none, none, none, none, none, none, some (.int x6), none]) ⟨rfl, trivial⟩ ?_
      exact hk171 x6 A h
    · rw [if_neg hc] at h
      refine ru_iload ddX11_copies_124 rfl ?_
      refine ru_aload_n ddX11_copies_126 rfl ?_
      refine ru_iload_n ddX11_copies_127 rfl ?_
      refine ru_iload_n ddX11_copies_128 rfl ?_
      refine ru_iload ddX11_copies_129 rfl ?_
      obtain ⟨v13, hv, h⟩ := ruB_inv h
      refine ru_callVi (as := [.int x2, .int x3, .int x7]) (st := [.int x6]) ddX11_copies_131 cvX11_74 rfl (wX11_choice 2 (Nat.le_refl _) x2 x3 x7 A hv) rfl (Nat.le_trans (m := 3) (by decide) hd) (Nat.le_of_ble_eq_true rfl) ?_
      clear hv
      refine ru_iconst (-1 : Int32) ddX11_copies_134 rfl ?_
      obtain ⟨v14, A15, hq, h⟩ := ruB2_inv h
      have J : ruW E mmX11_copies d Q 162 [some (rurf E 83), some (.int x1), some (.int x2), some (.int x3), none, none, none, some (.int x7)] [.int v14, .int x6] A15 := by
          refine ru_iadd ddX11_copies_162 ?_
          refine ru_istore ddX11_copies_163 (by decide) rfl rfl ?_
          refine ru_iinc (x7 + (1 : Int32)) ddX11_copies_165 (by decide) rfl rfl rfl rfl ?_
          refine ru_goto 117 ddX11_copies_168 (by decide) ?_
          exact ih (x6 + v14) (x7 + (1 : Int32)) A15 h
      replace h := hq
      clear hq
      refine ru_icmp_eq 161 ddX11_copies_135 (by decide) (fun hc => ?_) (fun hc => ?_)
      · rw [if_pos hc] at h
        refine ru_iconst (0 : Int32) ddX11_copies_161 rfl ?_
        refine ru_wk (L2 := [some (rurf E 83), some (.int x1), some (.int x2), some (.int x3), none, none, none, some (.int x7)]) ⟨rfl, rfl, rfl, rfl, rfl, trivial⟩ ?_
        obtain ⟨rfl, rfl⟩ := ruS2 h
        exact J
      · rw [if_neg hc] at h
        refine ru_aload_n ddX11_copies_138 rfl ?_
        refine ru_iload_n ddX11_copies_139 rfl ?_
        refine ru_iload ddX11_copies_140 rfl ?_
        refine ru_iconst (3 : Int32) ddX11_copies_142 rfl ?_
        refine ru_aload_n ddX11_copies_143 rfl ?_
        refine ru_iload_n ddX11_copies_144 rfl ?_
        refine ru_iload_n ddX11_copies_145 rfl ?_
        refine ru_iload ddX11_copies_146 rfl ?_
        obtain ⟨v16, hv, h⟩ := ruB_inv h
        refine ru_callVi (as := [.int x2, .int x3, .int x7]) (st := [.int (3 : Int32), .int x7, .int x1, rurf E 83, .int x6]) ddX11_copies_148 cvX11_74 rfl (wX11_choice 2 (Nat.le_refl _) x2 x3 x7 A hv) rfl (Nat.le_trans (m := 3) (by decide) hd) (Nat.le_of_ble_eq_true rfl) ?_
        clear hv
        obtain ⟨v17, A18, hv, h⟩ := ruB2_inv h
        refine ru_callVi (as := [.int x1, .int x7, .int (3 : Int32), .int v16]) (st := [.int x6]) ddX11_copies_151 cvX11_120 rfl (wX11_marks 2 (Nat.le_refl _) x1 x7 (3 : Int32) v16 A hv) rfl (Nat.le_trans (m := 3) (by decide) hd) (Nat.le_of_ble_eq_true rfl) ?_
        clear hv
        refine ru_if_eq 161 ddX11_copies_154 (by decide) (fun hc => ?_) (fun hc => ?_)
        · rw [if_pos hc] at h
          refine ru_iconst (0 : Int32) ddX11_copies_161 rfl ?_
          refine ru_wk (L2 := [some (rurf E 83), some (.int x1), some (.int x2), some (.int x3), none, none, none, some (.int x7)]) ⟨rfl, rfl, rfl, rfl, rfl, trivial⟩ ?_
          obtain ⟨rfl, rfl⟩ := ruS2 h
          exact J
        · rw [if_neg hc] at h
          refine ru_iconst (1 : Int32) ddX11_copies_157 rfl ?_
          refine ru_goto 162 ddX11_copies_158 (by decide) ?_
          refine ru_wk (L2 := [some (rurf E 83), some (.int x1), some (.int x2), some (.int x3), none, none, none, some (.int x7)]) ⟨rfl, rfl, rfl, rfl, rfl, trivial⟩ ?_
          obtain ⟨rfl, rfl⟩ := ruS2 h
          exact J
theorem wX11_copies {E : ruE} (d : Nat) (hd : 3 ≤ d) (x1 : Int32) (x2 : Int32) (A : ruA) {r : Int32} {B : ruA} (h : fX11_copies x1 x2 A = some (r, B)) : ruC E mmX11_copies d [rurf E 83, .int x1, .int x2] A (ruPr r B) := by
  refine ruC.of (L := [some (rurf E 83), some (.int x1), some (.int x2), none, none, none, none, none]) (by decide) rfl (Nat.le_of_ble_eq_true rfl) rfl ?_
  unfold fX11_copies at h
  refine ru_aload_n ddX11_copies_0 rfl ?_
  refine ru_iload_n ddX11_copies_1 rfl ?_
  refine ru_iconst (2 : Int32) ddX11_copies_2 rfl ?_
  obtain ⟨v1, hv, h⟩ := ruB_inv h
  refine ru_callVi (as := [.int x1, .int (2 : Int32)]) (st := []) ddX11_copies_3 cvX11_87 rfl (wX11_is 2 (Nat.le_refl _) x1 (2 : Int32) A hv) rfl (Nat.le_trans (m := 3) (by decide) hd) (Nat.le_of_ble_eq_true rfl) ?_
  clear hv
  refine ru_if_eq 18 ddX11_copies_6 (by decide) (fun hc => ?_) (fun hc => ?_)
  · rw [if_pos hc] at h
    refine ru_aload_n ddX11_copies_18 rfl ?_
    refine ru_ldc (v := (-1000001 : Int32)) ddX11_copies_19 ckX11_65 ?_
    obtain ⟨v2, A3, hv, h⟩ := ruB2_inv h
    refine ru_callVi (as := [.int (-1000001 : Int32)]) (st := []) ddX11_copies_21 cvX11_82 rfl (wX11_finding 1 (Nat.le_refl _) (-1000001 : Int32) A hv) rfl (Nat.le_trans (m := 3) (by decide) hd) (Nat.le_of_ble_eq_true rfl) ?_
    clear hv
    exact ru_iretW ddX11_copies_24 rfl h
  · rw [if_neg hc] at h
    refine ru_aload_n ddX11_copies_9 rfl ?_
    refine ru_iload_n ddX11_copies_10 rfl ?_
    refine ru_iconst (2 : Int32) ddX11_copies_11 rfl ?_
    obtain ⟨v4, hv, h⟩ := ruB_inv h
    refine ru_callVi (as := [.int x2, .int (2 : Int32)]) (st := []) ddX11_copies_12 cvX11_87 rfl (wX11_is 2 (Nat.le_refl _) x2 (2 : Int32) A hv) rfl (Nat.le_trans (m := 3) (by decide) hd) (Nat.le_of_ble_eq_true rfl) ?_
    clear hv
    refine ru_if_ne 25 ddX11_copies_15 (by decide) (fun hc => ?_) (fun hc => ?_)
    · rw [if_neg hc] at h
      refine ru_aload_n ddX11_copies_25 rfl ?_
      refine ru_getR (r := 84) ddX11_copies_26 flX11_9 rfl rfl ?_
      refine ru_iconst (0 : Int32) ddX11_copies_29 rfl ?_
      obtain ⟨v5, hv, h⟩ := ruB_inv h
      refine ru_iald ddX11_copies_30 rfl hv ?_
      clear hv
      refine ru_istore_n ddX11_copies_31 (by decide) rfl rfl ?_
      refine ru_aload_n ddX11_copies_32 rfl ?_
      refine ru_iload_n ddX11_copies_33 rfl ?_
      refine ru_iconst (1 : Int32) ddX11_copies_34 rfl ?_
      obtain ⟨v6, hv, h⟩ := ruB_inv h
      refine ru_callVi (as := [.int x1, .int (1 : Int32)]) (st := []) ddX11_copies_35 cvX11_91 rfl (wX11_childOf 1 (Nat.le_refl _) x1 (1 : Int32) A hv) rfl (Nat.le_trans (m := 3) (by decide) hd) (Nat.le_of_ble_eq_true rfl) ?_
      clear hv
      refine ru_aload_n ddX11_copies_38 rfl ?_
      refine ru_iload_n ddX11_copies_39 rfl ?_
      refine ru_iconst (1 : Int32) ddX11_copies_40 rfl ?_
      obtain ⟨v7, hv, h⟩ := ruB_inv h
      refine ru_callVi (as := [.int x2, .int (1 : Int32)]) (st := [.int v6]) ddX11_copies_41 cvX11_91 rfl (wX11_childOf 1 (Nat.le_refl _) x2 (1 : Int32) A hv) rfl (Nat.le_trans (m := 3) (by decide) hd) (Nat.le_of_ble_eq_true rfl) ?_
      clear hv
      refine ru_isub ddX11_copies_44 ?_
      refine ru_istore ddX11_copies_45 (by decide) rfl rfl ?_
      refine ru_aload_n ddX11_copies_47 rfl ?_
      refine ru_iload_n ddX11_copies_48 rfl ?_
      refine ru_iload_n ddX11_copies_49 rfl ?_
      obtain ⟨v8, hv, h⟩ := ruB_inv h
      refine ru_callVi (as := [.int x1, .int v5]) (st := []) ddX11_copies_50 cvX11_98 rfl (wX11_hasSheet 2 (Nat.le_refl _) x1 v5 A hv) rfl (Nat.le_trans (m := 3) (by decide) hd) (Nat.le_of_ble_eq_true rfl) ?_
      clear hv
      obtain ⟨v9, hq, h⟩ := ruB_inv h
      have J : ruW E mmX11_copies d (ruPr r B) 97 [some (rurf E 83), some (.int x1), some (.int x2), some (.int v5), none, none, none, none] [.int v9] A := by
          refine ru_istore ddX11_copies_97 (by decide) rfl rfl ?_
          refine ru_iload ddX11_copies_99 rfl ?_
          refine ru_if_ne 111 ddX11_copies_101 (by decide) (fun hc => ?_) (fun hc => ?_)
          · rw [if_neg hc] at h
            refine ru_iconst (0 : Int32) ddX11_copies_111 rfl ?_
            refine ru_istore ddX11_copies_112 (by decide) rfl rfl ?_
            refine ru_iconst (0 : Int32) ddX11_copies_114 rfl ?_
            refine ru_istore ddX11_copies_115 (by decide) rfl rfl ?_
            refine ru_wk (L2 := [some (rurf E 83), some (.int x1), some (.int x2), some (.int v5), none, none, some (.int (0 : Int32)), some (.int (0 : Int32))]) ⟨rfl, rfl, rfl, rfl, rfl, rfl, trivial⟩ ?_
            exact wX11_copies_l117 hd x1 x2 v5 (fun v19 A20 h => by
                  refine ru_iload ddX11_copies_171 rfl ?_
                  exact ru_iretW ddX11_copies_173 rfl h) ruF (0 : Int32) (0 : Int32) A h
          · rw [if_pos hc] at h
            refine ru_aload_n ddX11_copies_104 rfl ?_
            refine ru_ldc (v := (-1000005 : Int32)) ddX11_copies_105 ckX11_94 ?_
            obtain ⟨v21, A22, hv, h⟩ := ruB2_inv h
            refine ru_callVi (as := [.int (-1000005 : Int32)]) (st := []) ddX11_copies_107 cvX11_82 rfl (wX11_finding 1 (Nat.le_refl _) (-1000005 : Int32) A hv) rfl (Nat.le_trans (m := 3) (by decide) hd) (Nat.le_of_ble_eq_true rfl) ?_
            clear hv
            exact ru_iretW ddX11_copies_110 rfl h
      replace h := hq
      clear hq
      refine ru_if_eq 96 ddX11_copies_53 (by decide) (fun hc => ?_) (fun hc => ?_)
      · rw [if_pos hc] at h
        refine ru_iconst (0 : Int32) ddX11_copies_96 rfl ?_
        refine ru_wk (L2 := [some (rurf E 83), some (.int x1), some (.int x2), some (.int v5), none, none, none, none]) ⟨rfl, rfl, rfl, rfl, trivial⟩ ?_
        obtain rfl := ruS1 h
        exact J
      · rw [if_neg hc] at h
        refine ru_aload_n ddX11_copies_56 rfl ?_
        refine ru_iload_n ddX11_copies_57 rfl ?_
        refine ru_iload_n ddX11_copies_58 rfl ?_
        obtain ⟨v10, hv, h⟩ := ruB_inv h
        refine ru_callVi (as := [.int x2, .int v5]) (st := []) ddX11_copies_59 cvX11_98 rfl (wX11_hasSheet 2 (Nat.le_refl _) x2 v5 A hv) rfl (Nat.le_trans (m := 3) (by decide) hd) (Nat.le_of_ble_eq_true rfl) ?_
        clear hv
        refine ru_if_eq 96 ddX11_copies_62 (by decide) (fun hc => ?_) (fun hc => ?_)
        · rw [if_pos hc] at h
          refine ru_iconst (0 : Int32) ddX11_copies_96 rfl ?_
          refine ru_wk (L2 := [some (rurf E 83), some (.int x1), some (.int x2), some (.int v5), none, none, none, none]) ⟨rfl, rfl, rfl, rfl, trivial⟩ ?_
          obtain rfl := ruS1 h
          exact J
        · rw [if_neg hc] at h
          refine ru_aload_n ddX11_copies_65 rfl ?_
          refine ru_iload_n ddX11_copies_66 rfl ?_
          refine ru_iconst (0 : Int32) ddX11_copies_67 rfl ?_
          obtain ⟨v11, hv, h⟩ := ruB_inv h
          refine ru_callVi (as := [.int x1, .int (0 : Int32)]) (st := []) ddX11_copies_68 cvX11_91 rfl (wX11_childOf 1 (Nat.le_refl _) x1 (0 : Int32) A hv) rfl (Nat.le_trans (m := 3) (by decide) hd) (Nat.le_of_ble_eq_true rfl) ?_
          clear hv
          refine ru_aload_n ddX11_copies_71 rfl ?_
          refine ru_iload_n ddX11_copies_72 rfl ?_
          refine ru_iconst (0 : Int32) ddX11_copies_73 rfl ?_
          obtain ⟨v12, hv, h⟩ := ruB_inv h
          refine ru_callVi (as := [.int x2, .int (0 : Int32)]) (st := [.int v11]) ddX11_copies_74 cvX11_91 rfl (wX11_childOf 1 (Nat.le_refl _) x2 (0 : Int32) A hv) rfl (Nat.le_trans (m := 3) (by decide) hd) (Nat.le_of_ble_eq_true rfl) ?_
          clear hv
          refine ru_icmp_ne 96 ddX11_copies_77 (by decide) (fun hc => ?_) (fun hc => ?_)
          · rw [if_neg hc] at h
            refine ru_iconst (0 : Int32) ddX11_copies_96 rfl ?_
            refine ru_wk (L2 := [some (rurf E 83), some (.int x1), some (.int x2), some (.int v5), none, none, none, none]) ⟨rfl, rfl, rfl, rfl, trivial⟩ ?_
            obtain rfl := ruS1 h
            exact J
          · rw [if_pos hc] at h
            refine ru_iload ddX11_copies_80 rfl ?_
            refine ru_iconst (1 : Int32) ddX11_copies_82 rfl ?_
            refine ru_icmp_eq 92 ddX11_copies_83 (by decide) (fun hc => ?_) (fun hc => ?_)
            · rw [if_pos hc] at h
              refine ru_iconst (1 : Int32) ddX11_copies_92 rfl ?_
              refine ru_goto 97 ddX11_copies_93 (by decide) ?_
              refine ru_wk (L2 := [some (rurf E 83), some (.int x1), some (.int x2), some (.int v5), none, none, none, none]) ⟨rfl, rfl, rfl, rfl, trivial⟩ ?_
              obtain rfl := ruS1 h
              exact J
            · rw [if_neg hc] at h
              refine ru_iload ddX11_copies_86 rfl ?_
              refine ru_iconst (-1 : Int32) ddX11_copies_88 rfl ?_
              refine ru_icmp_ne 96 ddX11_copies_89 (by decide) (fun hc => ?_) (fun hc => ?_)
              · rw [if_neg hc] at h
                refine ru_iconst (0 : Int32) ddX11_copies_96 rfl ?_
                refine ru_wk (L2 := [some (rurf E 83), some (.int x1), some (.int x2), some (.int v5), none, none, none, none]) ⟨rfl, rfl, rfl, rfl, trivial⟩ ?_
                obtain rfl := ruS1 h
                exact J
              · rw [if_pos hc] at h
                refine ru_iconst (1 : Int32) ddX11_copies_92 rfl ?_
                refine ru_goto 97 ddX11_copies_93 (by decide) ?_
                refine ru_wk (L2 := [some (rurf E 83), some (.int x1), some (.int x2), some (.int v5), none, none, none, none]) ⟨rfl, rfl, rfl, rfl, trivial⟩ ?_
                obtain rfl := ruS1 h
                exact J
    · rw [if_pos hc] at h
      refine ru_aload_n ddX11_copies_18 rfl ?_
      refine ru_ldc (v := (-1000001 : Int32)) ddX11_copies_19 ckX11_65 ?_
      obtain ⟨v23, A24, hv, h⟩ := ruB2_inv h
      refine ru_callVi (as := [.int (-1000001 : Int32)]) (st := []) ddX11_copies_21 cvX11_82 rfl (wX11_finding 1 (Nat.le_refl _) (-1000001 : Int32) A hv) rfl (Nat.le_trans (m := 3) (by decide) hd) (Nat.le_of_ble_eq_true rfl) ?_
      clear hv
      exact ru_iretW ddX11_copies_24 rfl h
theorem wX11_isOf {E : ruE} (d : Nat) (hd : 3 ≤ d) (x1 : Int32) (x2 : Int32) (x3 : Int32) (A : ruA) {r : Int32} (h : fX11_isOf x1 x2 x3 A = some r) : ruC E mmX11_isOf d [rurf E 83, .int x1, .int x2, .int x3] A (ruPr r A) := by
  refine ruC.of (L := [some (rurf E 83), some (.int x1), some (.int x2), some (.int x3)]) (by decide) rfl (Nat.le_of_ble_eq_true rfl) rfl ?_
  unfold fX11_isOf at h
  refine ru_aload_n ddX11_isOf_0 rfl ?_
  refine ru_iload_n ddX11_isOf_1 rfl ?_
  refine ru_iconst (0 : Int32) ddX11_isOf_2 rfl ?_
  obtain ⟨v1, hv, h⟩ := ruB_inv h
  refine ru_callVi (as := [.int x1, .int (0 : Int32)]) (st := []) ddX11_isOf_3 cvX11_91 rfl (wX11_childOf 1 (Nat.le_refl _) x1 (0 : Int32) A hv) rfl (Nat.le_trans (m := 3) (by decide) hd) (Nat.le_of_ble_eq_true rfl) ?_
  clear hv
  refine ru_iload_n ddX11_isOf_6 rfl ?_
  refine ru_icmp_ne 23 ddX11_isOf_7 (by decide) (fun hc => ?_) (fun hc => ?_)
  · rw [if_neg hc] at h
    refine ru_iconst (0 : Int32) ddX11_isOf_23 rfl ?_
    exact ru_zretP ddX11_isOf_24 rfl (Or.inl rfl) h
  · rw [if_pos hc] at h
    refine ru_aload_n ddX11_isOf_10 rfl ?_
    refine ru_iload_n ddX11_isOf_11 rfl ?_
    refine ru_iload_n ddX11_isOf_12 rfl ?_
    obtain ⟨v2, hv, h⟩ := ruB_inv h
    refine ru_callVi (as := [.int x1, .int x3]) (st := []) ddX11_isOf_13 cvX11_98 rfl (wX11_hasSheet 2 (Nat.le_refl _) x1 x3 A hv) rfl (Nat.le_trans (m := 3) (by decide) hd) (Nat.le_of_ble_eq_true rfl) ?_
    clear hv
    refine ru_if_eq 23 ddX11_isOf_16 (by decide) (fun hc => ?_) (fun hc => ?_)
    · rw [if_pos hc] at h
      refine ru_iconst (0 : Int32) ddX11_isOf_23 rfl ?_
      exact ru_zretP ddX11_isOf_24 rfl (Or.inl rfl) h
    · rw [if_neg hc] at h
      refine ru_iconst (1 : Int32) ddX11_isOf_19 rfl ?_
      refine ru_goto 24 ddX11_isOf_20 (by decide) ?_
      exact ru_zretP ddX11_isOf_24 rfl (Or.inr rfl) h
theorem wX11_said_l28 {E : ruE} {d : Nat} (hd : 4 ≤ d) {β : Type} {Q : Option Value → ruA → Prop} {res : β} (x1 : Int32) (x2 : Int32) {k89 : Int32 → ruA → Option (β)} (hk89 : ∀ (x3 : Int32) (A : ruA), k89 x3 A = some res → ruW E mmX11_said d Q 89 [none, none, none, some (.int x3), none] [] A) : ∀ (n : Nat) (x3 : Int32) (x4 : Int32) (A : ruA), fX11_said_l28 x1 x2 k89 n x3 x4 A = some res → ruW E mmX11_said d Q 28 [some (rurf E 83), some (.int x1), some (.int x2), some (.int x3), some (.int x4)] [] A := by
  intro n
  induction n with
  | zero =>
    intro x3 x4 A h
    exact absurd h (by rw [fX11_said_l28]; exact fun h => nomatch h)
  | succ n ih =>
    intro x3 x4 A h
    rw [fX11_said_l28] at h
    refine ru_iload ddX11_said_28 rfl ?_
    refine ru_aload_n ddX11_said_30 rfl ?_
    refine ru_getR (r := 84) ddX11_said_31 flX11_9 rfl rfl ?_
    refine ru_iconst (2 : Int32) ddX11_said_34 rfl ?_
    obtain ⟨v5, hv, h⟩ := ruB_inv h
    refine ru_iald ddX11_said_35 rfl hv ?_
    clear hv
    refine ru_icmp_ge 89 ddX11_said_36 (by decide) (fun hc => ?_) (fun hc => ?_)
    · rw [if_pos hc] at h
      refine ru_wk (L2 := [none, none, none, some (.int x3), none]) ⟨rfl, trivial⟩ ?_
      exact hk89 x3 A h
    · rw [if_neg hc] at h
      refine ru_iload_n ddX11_said_39 rfl ?_
      refine ru_aload_n ddX11_said_40 rfl ?_
      refine ru_iload ddX11_said_41 rfl ?_
      refine ru_iload_n ddX11_said_43 rfl ?_
      refine ru_aload_n ddX11_said_44 rfl ?_
      refine ru_getR (r := 84) ddX11_said_45 flX11_9 rfl rfl ?_
      refine ru_iconst (0 : Int32) ddX11_said_48 rfl ?_
      obtain ⟨v6, hv, h⟩ := ruB_inv h
      refine ru_iald ddX11_said_49 rfl hv ?_
      clear hv
      obtain ⟨v7, hv, h⟩ := ruB_inv h
      refine ru_callVi (as := [.int x4, .int x1, .int v6]) (st := [.int x3]) ddX11_said_50 cvX11_124 rfl (wX11_isOf 3 (Nat.le_refl _) x4 x1 v6 A hv) rfl (Nat.le_trans (m := 4) (by decide) hd) (Nat.le_of_ble_eq_true rfl) ?_
      clear hv
      obtain ⟨v8, A9, hq, h⟩ := ruB2_inv h
      have J : ruW E mmX11_said d Q 81 [some (rurf E 83), some (.int x1), some (.int x2), none, some (.int x4)] [.int v8, .int x3] A9 := by
          refine ru_iadd ddX11_said_81 ?_
          refine ru_istore_n ddX11_said_82 (by decide) rfl rfl ?_
          refine ru_iinc (x4 + (1 : Int32)) ddX11_said_83 (by decide) rfl rfl rfl rfl ?_
          refine ru_goto 28 ddX11_said_86 (by decide) ?_
          exact ih (x3 + v8) (x4 + (1 : Int32)) A9 h
      replace h := hq
      clear hq
      refine ru_if_eq 80 ddX11_said_53 (by decide) (fun hc => ?_) (fun hc => ?_)
      · rw [if_pos hc] at h
        refine ru_iconst (0 : Int32) ddX11_said_80 rfl ?_
        refine ru_wk (L2 := [some (rurf E 83), some (.int x1), some (.int x2), none, some (.int x4)]) ⟨rfl, rfl, rfl, rfl, trivial⟩ ?_
        obtain ⟨rfl, rfl⟩ := ruS2 h
        exact J
      · rw [if_neg hc] at h
        refine ru_aload_n ddX11_said_56 rfl ?_
        refine ru_iload ddX11_said_57 rfl ?_
        refine ru_iload_n ddX11_said_59 rfl ?_
        refine ru_iconst (4 : Int32) ddX11_said_60 rfl ?_
        refine ru_aload_n ddX11_said_61 rfl ?_
        refine ru_getR (r := 84) ddX11_said_62 flX11_9 rfl rfl ?_
        refine ru_bipush (8 : Int32) ddX11_said_65 rfl ?_
        refine ru_iload_n ddX11_said_67 rfl ?_
        refine ru_iadd ddX11_said_68 ?_
        obtain ⟨v10, hv, h⟩ := ruB_inv h
        refine ru_iald ddX11_said_69 rfl hv ?_
        clear hv
        obtain ⟨v11, A12, hv, h⟩ := ruB2_inv h
        refine ru_callVi (as := [.int x4, .int x2, .int (4 : Int32), .int v10]) (st := [.int x3]) ddX11_said_70 cvX11_120 rfl (wX11_marks 2 (Nat.le_refl _) x4 x2 (4 : Int32) v10 A hv) rfl (Nat.le_trans (m := 4) (by decide) hd) (Nat.le_of_ble_eq_true rfl) ?_
        clear hv
        refine ru_if_eq 80 ddX11_said_73 (by decide) (fun hc => ?_) (fun hc => ?_)
        · rw [if_pos hc] at h
          refine ru_iconst (0 : Int32) ddX11_said_80 rfl ?_
          refine ru_wk (L2 := [some (rurf E 83), some (.int x1), some (.int x2), none, some (.int x4)]) ⟨rfl, rfl, rfl, rfl, trivial⟩ ?_
          obtain ⟨rfl, rfl⟩ := ruS2 h
          exact J
        · rw [if_neg hc] at h
          refine ru_iconst (1 : Int32) ddX11_said_76 rfl ?_
          refine ru_goto 81 ddX11_said_77 (by decide) ?_
          refine ru_wk (L2 := [some (rurf E 83), some (.int x1), some (.int x2), none, some (.int x4)]) ⟨rfl, rfl, rfl, rfl, trivial⟩ ?_
          obtain ⟨rfl, rfl⟩ := ruS2 h
          exact J
theorem wX11_said {E : ruE} (d : Nat) (hd : 4 ≤ d) (x1 : Int32) (x2 : Int32) (A : ruA) {r : Int32} {B : ruA} (h : fX11_said x1 x2 A = some (r, B)) : ruC E mmX11_said d [rurf E 83, .int x1, .int x2] A (ruPr r B) := by
  refine ruC.of (L := [some (rurf E 83), some (.int x1), some (.int x2), none, none]) (by decide) rfl (Nat.le_of_ble_eq_true rfl) rfl ?_
  unfold fX11_said at h
  refine ru_aload_n ddX11_said_0 rfl ?_
  refine ru_iload_n ddX11_said_1 rfl ?_
  refine ru_iconst (1 : Int32) ddX11_said_2 rfl ?_
  obtain ⟨v1, hv, h⟩ := ruB_inv h
  refine ru_callVi (as := [.int x1, .int (1 : Int32)]) (st := []) ddX11_said_3 cvX11_87 rfl (wX11_is 2 (Nat.le_refl _) x1 (1 : Int32) A hv) rfl (Nat.le_trans (m := 4) (by decide) hd) (Nat.le_of_ble_eq_true rfl) ?_
  clear hv
  refine ru_if_eq 16 ddX11_said_6 (by decide) (fun hc => ?_) (fun hc => ?_)
  · rw [if_pos hc] at h
    refine ru_aload_n ddX11_said_16 rfl ?_
    refine ru_ldc (v := (-1000001 : Int32)) ddX11_said_17 ckX11_65 ?_
    obtain ⟨v2, A3, hv, h⟩ := ruB2_inv h
    refine ru_callVi (as := [.int (-1000001 : Int32)]) (st := []) ddX11_said_19 cvX11_82 rfl (wX11_finding 1 (Nat.le_refl _) (-1000001 : Int32) A hv) rfl (Nat.le_trans (m := 4) (by decide) hd) (Nat.le_of_ble_eq_true rfl) ?_
    clear hv
    exact ru_iretW ddX11_said_22 rfl h
  · rw [if_neg hc] at h
    refine ru_iload_n ddX11_said_9 rfl ?_
    obtain ⟨v4, hv, h⟩ := ruB_inv h
    refine ru_callSi (as := [.int x2]) (st := []) ddX11_said_10 csX11_78 (wX11_isQuestion 2 (Nat.le_refl _) x2 A hv) rfl (Nat.le_trans (m := 4) (by decide) hd) (Nat.le_of_ble_eq_true rfl) ?_
    clear hv
    refine ru_if_ne 23 ddX11_said_13 (by decide) (fun hc => ?_) (fun hc => ?_)
    · rw [if_neg hc] at h
      refine ru_iconst (0 : Int32) ddX11_said_23 rfl ?_
      refine ru_istore_n ddX11_said_24 (by decide) rfl rfl ?_
      refine ru_iconst (0 : Int32) ddX11_said_25 rfl ?_
      refine ru_istore ddX11_said_26 (by decide) rfl rfl ?_
      exact wX11_said_l28 hd x1 x2 (fun v13 A14 h => by
            refine ru_iload_n ddX11_said_89 rfl ?_
            exact ru_iretW ddX11_said_90 rfl h) ruF (0 : Int32) (0 : Int32) A h
    · rw [if_pos hc] at h
      refine ru_aload_n ddX11_said_16 rfl ?_
      refine ru_ldc (v := (-1000001 : Int32)) ddX11_said_17 ckX11_65 ?_
      obtain ⟨v15, A16, hv, h⟩ := ruB2_inv h
      refine ru_callVi (as := [.int (-1000001 : Int32)]) (st := []) ddX11_said_19 cvX11_82 rfl (wX11_finding 1 (Nat.le_refl _) (-1000001 : Int32) A hv) rfl (Nat.le_trans (m := 4) (by decide) hd) (Nat.le_of_ble_eq_true rfl) ?_
      clear hv
      exact ru_iretW ddX11_said_22 rfl h
theorem wX11_puts_l45 {E : ruE} {d : Nat} (hd : 4 ≤ d) {β : Type} {Q : Option Value → ruA → Prop} {res : β} (x1 : Int32) (x2 : Int32) (x4 : Int32) {k156 : Int32 → ruA → Option (β)} (hk156 : ∀ (x3 : Int32) (A : ruA), k156 x3 A = some res → ruW E mmX11_puts d Q 156 [some (rurf E 83), some (.int x1), some (.int x2), some (.int x3), some (.int x4), none, none] [] A) : ∀ (n : Nat) (x3 : Int32) (x5 : Int32) (A : ruA), fX11_puts_l45 x1 x2 x4 k156 n x3 x5 A = some res → ruW E mmX11_puts d Q 45 [some (rurf E 83), some (.int x1), some (.int x2), some (.int x3), some (.int x4), some (.int x5), none] [] A := by
  intro n
  induction n with
  | zero =>
    intro x3 x5 A h
    exact absurd h (by rw [fX11_puts_l45]; exact fun h => nomatch h)
  | succ n ih =>
    intro x3 x5 A h
    rw [fX11_puts_l45] at h
    refine ru_iload ddX11_puts_45 rfl ?_
    refine ru_bipush (12 : Int32) ddX11_puts_47 rfl ?_
    refine ru_icmp_ge 156 ddX11_puts_49 (by decide) (fun hc => ?_) (fun hc => ?_)
    · rw [if_pos hc] at h
      refine ru_wk (L2 := [some (rurf E 83), some (.int x1), some (.int x2), some (.int x3), some (.int x4), none, none]) ⟨rfl, rfl, rfl, rfl, rfl, trivial⟩ ?_
      exact hk156 x3 A h
    · rw [if_neg hc] at h
      refine ru_iload_n ddX11_puts_52 rfl ?_
      refine ru_iload_n ddX11_puts_53 rfl ?_
      refine ru_icmp_ge 156 ddX11_puts_54 (by decide) (fun hc => ?_) (fun hc => ?_)
      · rw [if_pos hc] at h
        refine ru_wk (L2 := [some (rurf E 83), some (.int x1), some (.int x2), some (.int x3), some (.int x4), none, none]) ⟨rfl, rfl, rfl, rfl, rfl, trivial⟩ ?_
        exact hk156 x3 A h
      · rw [if_neg hc] at h
        refine ru_aload_n ddX11_puts_57 rfl ?_
        refine ru_iload ddX11_puts_58 rfl ?_
        refine ru_iload_n ddX11_puts_60 rfl ?_
        refine ru_aload_n ddX11_puts_61 rfl ?_
        refine ru_getR (r := 84) ddX11_puts_62 flX11_9 rfl rfl ?_
        refine ru_iconst (0 : Int32) ddX11_puts_65 rfl ?_
        obtain ⟨v6, hv, h⟩ := ruB_inv h
        refine ru_iald ddX11_puts_66 rfl hv ?_
        clear hv
        obtain ⟨v7, hv, h⟩ := ruB_inv h
        refine ru_callVi (as := [.int x4, .int x1, .int v6]) (st := []) ddX11_puts_67 cvX11_124 rfl (wX11_isOf 3 (Nat.le_refl _) x4 x1 v6 A hv) rfl (Nat.le_trans (m := 4) (by decide) hd) (Nat.le_of_ble_eq_true rfl) ?_
        clear hv
        refine ru_if_eq 156 ddX11_puts_70 (by decide) (fun hc => ?_) (fun hc => ?_)
        · rw [if_pos hc] at h
          refine ru_wk (L2 := [some (rurf E 83), some (.int x1), some (.int x2), some (.int x3), some (.int x4), none, none]) ⟨rfl, rfl, rfl, rfl, rfl, trivial⟩ ?_
          exact hk156 x3 A h
        · rw [if_neg hc] at h
          refine ru_aload_n ddX11_puts_73 rfl ?_
          refine ru_iload ddX11_puts_74 rfl ?_
          refine ru_aload_n ddX11_puts_76 rfl ?_
          refine ru_getR (r := 84) ddX11_puts_77 flX11_9 rfl rfl ?_
          refine ru_iconst (0 : Int32) ddX11_puts_80 rfl ?_
          obtain ⟨v8, hv, h⟩ := ruB_inv h
          refine ru_iald ddX11_puts_81 rfl hv ?_
          clear hv
          refine ru_iload ddX11_puts_82 rfl ?_
          obtain ⟨v9, hv, h⟩ := ruB_inv h
          refine ru_callVi (as := [.int x4, .int v8, .int x5]) (st := []) ddX11_puts_84 cvX11_74 rfl (wX11_choice 2 (Nat.le_refl _) x4 v8 x5 A hv) rfl (Nat.le_trans (m := 4) (by decide) hd) (Nat.le_of_ble_eq_true rfl) ?_
          clear hv
          refine ru_iconst (-1 : Int32) ddX11_puts_87 rfl ?_
          obtain ⟨v10, hq, h⟩ := ruB_inv h
          have J : ruW E mmX11_puts d Q 113 [some (rurf E 83), some (.int x1), some (.int x2), some (.int x3), some (.int x4), some (.int x5), none] [.int v10] A := by
              refine ru_istore ddX11_puts_113 (by decide) rfl rfl ?_
              refine ru_iload_n ddX11_puts_115 rfl ?_
              refine ru_iload ddX11_puts_116 rfl ?_
              obtain ⟨v13, A14, hq, h⟩ := ruB2_inv h
              have J : ruW E mmX11_puts d Q 148 [some (rurf E 83), some (.int x1), some (.int x2), none, some (.int x4), some (.int x5), none] [.int v13, .int x3] A14 := by
                  refine ru_iadd ddX11_puts_148 ?_
                  refine ru_istore_n ddX11_puts_149 (by decide) rfl rfl ?_
                  refine ru_iinc (x5 + (1 : Int32)) ddX11_puts_150 (by decide) rfl rfl rfl rfl ?_
                  refine ru_goto 45 ddX11_puts_153 (by decide) ?_
                  exact ih (x3 + v13) (x5 + (1 : Int32)) A14 h
              replace h := hq
              clear hq
              refine ru_if_eq 147 ddX11_puts_118 (by decide) (fun hc => ?_) (fun hc => ?_)
              · rw [if_pos hc] at h
                refine ru_iconst (0 : Int32) ddX11_puts_147 rfl ?_
                refine ru_wk (L2 := [some (rurf E 83), some (.int x1), some (.int x2), none, some (.int x4), some (.int x5), none]) ⟨rfl, rfl, rfl, rfl, rfl, trivial⟩ ?_
                obtain ⟨rfl, rfl⟩ := ruS2 h
                exact J
              · rw [if_neg hc] at h
                refine ru_aload_n ddX11_puts_121 rfl ?_
                refine ru_iload ddX11_puts_122 rfl ?_
                refine ru_iload ddX11_puts_124 rfl ?_
                refine ru_iconst (5 : Int32) ddX11_puts_126 rfl ?_
                refine ru_aload_n ddX11_puts_127 rfl ?_
                refine ru_getR (r := 84) ddX11_puts_128 flX11_9 rfl rfl ?_
                refine ru_bipush (8 : Int32) ddX11_puts_131 rfl ?_
                refine ru_iload ddX11_puts_133 rfl ?_
                refine ru_iadd ddX11_puts_135 ?_
                obtain ⟨v15, hv, h⟩ := ruB_inv h
                refine ru_iald ddX11_puts_136 rfl hv ?_
                clear hv
                obtain ⟨v16, A17, hv, h⟩ := ruB2_inv h
                refine ru_callVi (as := [.int x4, .int x5, .int (5 : Int32), .int v15]) (st := [.int x3]) ddX11_puts_137 cvX11_120 rfl (wX11_marks 2 (Nat.le_refl _) x4 x5 (5 : Int32) v15 A hv) rfl (Nat.le_trans (m := 4) (by decide) hd) (Nat.le_of_ble_eq_true rfl) ?_
                clear hv
                refine ru_if_eq 147 ddX11_puts_140 (by decide) (fun hc => ?_) (fun hc => ?_)
                · rw [if_pos hc] at h
                  refine ru_iconst (0 : Int32) ddX11_puts_147 rfl ?_
                  refine ru_wk (L2 := [some (rurf E 83), some (.int x1), some (.int x2), none, some (.int x4), some (.int x5), none]) ⟨rfl, rfl, rfl, rfl, rfl, trivial⟩ ?_
                  obtain ⟨rfl, rfl⟩ := ruS2 h
                  exact J
                · rw [if_neg hc] at h
                  refine ru_iconst (1 : Int32) ddX11_puts_143 rfl ?_
                  refine ru_goto 148 ddX11_puts_144 (by decide) ?_
                  refine ru_wk (L2 := [some (rurf E 83), some (.int x1), some (.int x2), none, some (.int x4), some (.int x5), none]) ⟨rfl, rfl, rfl, rfl, rfl, trivial⟩ ?_
                  obtain ⟨rfl, rfl⟩ := ruS2 h
                  exact J
          replace h := hq
          clear hq
          refine ru_icmp_eq 112 ddX11_puts_88 (by decide) (fun hc => ?_) (fun hc => ?_)
          · rw [if_pos hc] at h
            refine ru_iconst (0 : Int32) ddX11_puts_112 rfl ?_
            obtain rfl := ruS1 h
            exact J
          · rw [if_neg hc] at h
            refine ru_aload_n ddX11_puts_91 rfl ?_
            refine ru_iload ddX11_puts_92 rfl ?_
            refine ru_aload_n ddX11_puts_94 rfl ?_
            refine ru_getR (r := 84) ddX11_puts_95 flX11_9 rfl rfl ?_
            refine ru_iconst (0 : Int32) ddX11_puts_98 rfl ?_
            obtain ⟨v11, hv, h⟩ := ruB_inv h
            refine ru_iald ddX11_puts_99 rfl hv ?_
            clear hv
            refine ru_iload ddX11_puts_100 rfl ?_
            obtain ⟨v12, hv, h⟩ := ruB_inv h
            refine ru_callVi (as := [.int x4, .int v11, .int x5]) (st := []) ddX11_puts_102 cvX11_101 rfl (wX11_isRight 3 (Nat.le_refl _) x4 v11 x5 A hv) rfl (Nat.le_trans (m := 4) (by decide) hd) (Nat.le_of_ble_eq_true rfl) ?_
            clear hv
            refine ru_if_ne 112 ddX11_puts_105 (by decide) (fun hc => ?_) (fun hc => ?_)
            · rw [if_neg hc] at h
              refine ru_iconst (0 : Int32) ddX11_puts_112 rfl ?_
              obtain rfl := ruS1 h
              exact J
            · rw [if_pos hc] at h
              refine ru_iconst (1 : Int32) ddX11_puts_108 rfl ?_
              refine ru_goto 113 ddX11_puts_109 (by decide) ?_
              obtain rfl := ruS1 h
              exact J
theorem wX11_puts_l31 {E : ruE} {d : Nat} (hd : 4 ≤ d) {β : Type} {Q : Option Value → ruA → Prop} {res : β} (x1 : Int32) (x2 : Int32) {k162 : Int32 → ruA → Option (β)} (hk162 : ∀ (x3 : Int32) (A : ruA), k162 x3 A = some res → ruW E mmX11_puts d Q 162 [none, none, none, some (.int x3), none, none, none] [] A) : ∀ (n : Nat) (x3 : Int32) (x4 : Int32) (A : ruA), fX11_puts_l31 x1 x2 k162 n x3 x4 A = some res → ruW E mmX11_puts d Q 31 [some (rurf E 83), some (.int x1), some (.int x2), some (.int x3), some (.int x4), none, none] [] A := by
  intro n
  induction n with
  | zero =>
    intro x3 x4 A h
    exact absurd h (by rw [fX11_puts_l31]; exact fun h => nomatch h)
  | succ n ih =>
    intro x3 x4 A h
    rw [fX11_puts_l31] at h
    refine ru_iload ddX11_puts_31 rfl ?_
    refine ru_aload_n ddX11_puts_33 rfl ?_
    refine ru_getR (r := 84) ddX11_puts_34 flX11_9 rfl rfl ?_
    refine ru_iconst (2 : Int32) ddX11_puts_37 rfl ?_
    obtain ⟨v5, hv, h⟩ := ruB_inv h
    refine ru_iald ddX11_puts_38 rfl hv ?_
    clear hv
    refine ru_icmp_ge 162 ddX11_puts_39 (by decide) (fun hc => ?_) (fun hc => ?_)
    · rw [if_pos hc] at h
      refine ru_wk (L2 := [none, none, none, some (.int x3), none, none, none]) ⟨rfl, trivial⟩ ?_
      exact hk162 x3 A h
    · rw [if_neg hc] at h
      refine ru_iconst (0 : Int32) ddX11_puts_42 rfl ?_
      refine ru_istore ddX11_puts_43 (by decide) rfl rfl ?_
      exact wX11_puts_l45 hd x1 x2 x4 (fun v18 A19 h => by
            refine ru_iinc (x4 + (1 : Int32)) ddX11_puts_156 (by decide) rfl rfl rfl rfl ?_
            refine ru_goto 31 ddX11_puts_159 (by decide) ?_
            exact ih v18 (x4 + (1 : Int32)) A19 h) ruF x3 (0 : Int32) A h
theorem wX11_puts {E : ruE} (d : Nat) (hd : 4 ≤ d) (x1 : Int32) (x2 : Int32) (A : ruA) {r : Int32} {B : ruA} (h : fX11_puts x1 x2 A = some (r, B)) : ruC E mmX11_puts d [rurf E 83, .int x1, .int x2] A (ruPr r B) := by
  refine ruC.of (L := [some (rurf E 83), some (.int x1), some (.int x2), none, none, none, none]) (by decide) rfl (Nat.le_of_ble_eq_true rfl) rfl ?_
  unfold fX11_puts at h
  refine ru_aload_n ddX11_puts_0 rfl ?_
  refine ru_iload_n ddX11_puts_1 rfl ?_
  refine ru_iconst (1 : Int32) ddX11_puts_2 rfl ?_
  obtain ⟨v1, hv, h⟩ := ruB_inv h
  refine ru_callVi (as := [.int x1, .int (1 : Int32)]) (st := []) ddX11_puts_3 cvX11_87 rfl (wX11_is 2 (Nat.le_refl _) x1 (1 : Int32) A hv) rfl (Nat.le_trans (m := 4) (by decide) hd) (Nat.le_of_ble_eq_true rfl) ?_
  clear hv
  refine ru_if_eq 19 ddX11_puts_6 (by decide) (fun hc => ?_) (fun hc => ?_)
  · rw [if_pos hc] at h
    refine ru_aload_n ddX11_puts_19 rfl ?_
    refine ru_ldc (v := (-1000001 : Int32)) ddX11_puts_20 ckX11_65 ?_
    obtain ⟨v2, A3, hv, h⟩ := ruB2_inv h
    refine ru_callVi (as := [.int (-1000001 : Int32)]) (st := []) ddX11_puts_22 cvX11_82 rfl (wX11_finding 1 (Nat.le_refl _) (-1000001 : Int32) A hv) rfl (Nat.le_trans (m := 4) (by decide) hd) (Nat.le_of_ble_eq_true rfl) ?_
    clear hv
    exact ru_iretW ddX11_puts_25 rfl h
  · rw [if_neg hc] at h
    refine ru_iload_n ddX11_puts_9 rfl ?_
    refine ru_iconst (1 : Int32) ddX11_puts_10 rfl ?_
    refine ru_bipush (99 : Int32) ddX11_puts_11 rfl ?_
    obtain ⟨v4, hv, h⟩ := ruB_inv h
    refine ru_callSi (as := [.int x2, .int (1 : Int32), .int (99 : Int32)]) (st := []) ddX11_puts_13 csX11_66 (wX11_within 1 (Nat.le_refl _) x2 (1 : Int32) (99 : Int32) A hv) rfl (Nat.le_trans (m := 4) (by decide) hd) (Nat.le_of_ble_eq_true rfl) ?_
    clear hv
    refine ru_if_ne 26 ddX11_puts_16 (by decide) (fun hc => ?_) (fun hc => ?_)
    · rw [if_neg hc] at h
      refine ru_iconst (0 : Int32) ddX11_puts_26 rfl ?_
      refine ru_istore_n ddX11_puts_27 (by decide) rfl rfl ?_
      refine ru_iconst (0 : Int32) ddX11_puts_28 rfl ?_
      refine ru_istore ddX11_puts_29 (by decide) rfl rfl ?_
      exact wX11_puts_l31 hd x1 x2 (fun v20 A21 h => by
            refine ru_iload_n ddX11_puts_162 rfl ?_
            exact ru_iretW ddX11_puts_163 rfl h) ruF (0 : Int32) (0 : Int32) A h
    · rw [if_pos hc] at h
      refine ru_aload_n ddX11_puts_19 rfl ?_
      refine ru_ldc (v := (-1000001 : Int32)) ddX11_puts_20 ckX11_65 ?_
      obtain ⟨v22, A23, hv, h⟩ := ruB2_inv h
      refine ru_callVi (as := [.int (-1000001 : Int32)]) (st := []) ddX11_puts_22 cvX11_82 rfl (wX11_finding 1 (Nat.le_refl _) (-1000001 : Int32) A hv) rfl (Nat.le_trans (m := 4) (by decide) hd) (Nat.le_of_ble_eq_true rfl) ?_
      clear hv
      exact ru_iretW ddX11_puts_25 rfl h
theorem wX11_fills_l33 {E : ruE} {d : Nat} (hd : 4 ≤ d) {β : Type} {Q : Option Value → ruA → Prop} {res : β} (x1 : Int32) (x3 : Int32) {k108 : Int32 → ruA → Option (β)} (hk108 : ∀ (x2 : Int32) (A : ruA), k108 x2 A = some res → ruW E mmX11_fills d Q 108 [some (rurf E 83), some (.int x1), some (.int x2), some (.int x3), none] [] A) : ∀ (n : Nat) (x2 : Int32) (x4 : Int32) (A : ruA), fX11_fills_l33 x1 x3 k108 n x2 x4 A = some res → ruW E mmX11_fills d Q 33 [some (rurf E 83), some (.int x1), some (.int x2), some (.int x3), some (.int x4)] [] A := by
  intro n
  induction n with
  | zero =>
    intro x2 x4 A h
    exact absurd h (by rw [fX11_fills_l33]; exact fun h => nomatch h)
  | succ n ih =>
    intro x2 x4 A h
    rw [fX11_fills_l33] at h
    refine ru_iload ddX11_fills_33 rfl ?_
    refine ru_bipush (12 : Int32) ddX11_fills_35 rfl ?_
    refine ru_icmp_ge 108 ddX11_fills_37 (by decide) (fun hc => ?_) (fun hc => ?_)
    · rw [if_pos hc] at h
      refine ru_wk (L2 := [some (rurf E 83), some (.int x1), some (.int x2), some (.int x3), none]) ⟨rfl, rfl, rfl, rfl, trivial⟩ ?_
      exact hk108 x2 A h
    · rw [if_neg hc] at h
      refine ru_aload_n ddX11_fills_40 rfl ?_
      refine ru_iload_n ddX11_fills_41 rfl ?_
      refine ru_iload_n ddX11_fills_42 rfl ?_
      refine ru_aload_n ddX11_fills_43 rfl ?_
      refine ru_getR (r := 84) ddX11_fills_44 flX11_9 rfl rfl ?_
      refine ru_iconst (0 : Int32) ddX11_fills_47 rfl ?_
      obtain ⟨v3, hv, h⟩ := ruB_inv h
      refine ru_iald ddX11_fills_48 rfl hv ?_
      clear hv
      obtain ⟨v4, hv, h⟩ := ruB_inv h
      refine ru_callVi (as := [.int x3, .int x1, .int v3]) (st := []) ddX11_fills_49 cvX11_124 rfl (wX11_isOf 3 (Nat.le_refl _) x3 x1 v3 A hv) rfl (Nat.le_trans (m := 4) (by decide) hd) (Nat.le_of_ble_eq_true rfl) ?_
      clear hv
      refine ru_if_eq 108 ddX11_fills_52 (by decide) (fun hc => ?_) (fun hc => ?_)
      · rw [if_pos hc] at h
        refine ru_wk (L2 := [some (rurf E 83), some (.int x1), some (.int x2), some (.int x3), none]) ⟨rfl, rfl, rfl, rfl, trivial⟩ ?_
        exact hk108 x2 A h
      · rw [if_neg hc] at h
        refine ru_iload_n ddX11_fills_55 rfl ?_
        refine ru_aload_n ddX11_fills_56 rfl ?_
        refine ru_iload_n ddX11_fills_57 rfl ?_
        refine ru_aload_n ddX11_fills_58 rfl ?_
        refine ru_getR (r := 84) ddX11_fills_59 flX11_9 rfl rfl ?_
        refine ru_iconst (0 : Int32) ddX11_fills_62 rfl ?_
        obtain ⟨v5, hv, h⟩ := ruB_inv h
        refine ru_iald ddX11_fills_63 rfl hv ?_
        clear hv
        refine ru_iload ddX11_fills_64 rfl ?_
        obtain ⟨v6, hv, h⟩ := ruB_inv h
        refine ru_callVi (as := [.int x3, .int v5, .int x4]) (st := [.int x2]) ddX11_fills_66 cvX11_74 rfl (wX11_choice 2 (Nat.le_refl _) x3 v5 x4 A hv) rfl (Nat.le_trans (m := 4) (by decide) hd) (Nat.le_of_ble_eq_true rfl) ?_
        clear hv
        refine ru_iconst (-1 : Int32) ddX11_fills_69 rfl ?_
        obtain ⟨v7, A8, hq, h⟩ := ruB2_inv h
        have J : ruW E mmX11_fills d Q 100 [some (rurf E 83), some (.int x1), none, some (.int x3), some (.int x4)] [.int v7, .int x2] A8 := by
            refine ru_iadd ddX11_fills_100 ?_
            refine ru_istore_n ddX11_fills_101 (by decide) rfl rfl ?_
            refine ru_iinc (x4 + (1 : Int32)) ddX11_fills_102 (by decide) rfl rfl rfl rfl ?_
            refine ru_goto 33 ddX11_fills_105 (by decide) ?_
            exact ih (x2 + v7) (x4 + (1 : Int32)) A8 h
        replace h := hq
        clear hq
        refine ru_icmp_ne 99 ddX11_fills_70 (by decide) (fun hc => ?_) (fun hc => ?_)
        · rw [if_neg hc] at h
          refine ru_iconst (0 : Int32) ddX11_fills_99 rfl ?_
          refine ru_wk (L2 := [some (rurf E 83), some (.int x1), none, some (.int x3), some (.int x4)]) ⟨rfl, rfl, rfl, rfl, trivial⟩ ?_
          obtain ⟨rfl, rfl⟩ := ruS2 h
          exact J
        · rw [if_pos hc] at h
          refine ru_aload_n ddX11_fills_73 rfl ?_
          refine ru_iload_n ddX11_fills_74 rfl ?_
          refine ru_iload ddX11_fills_75 rfl ?_
          refine ru_bipush (6 : Int32) ddX11_fills_77 rfl ?_
          refine ru_aload_n ddX11_fills_79 rfl ?_
          refine ru_getR (r := 84) ddX11_fills_80 flX11_9 rfl rfl ?_
          refine ru_bipush (8 : Int32) ddX11_fills_83 rfl ?_
          refine ru_iload ddX11_fills_85 rfl ?_
          refine ru_iadd ddX11_fills_87 ?_
          obtain ⟨v9, hv, h⟩ := ruB_inv h
          refine ru_iald ddX11_fills_88 rfl hv ?_
          clear hv
          obtain ⟨v10, A11, hv, h⟩ := ruB2_inv h
          refine ru_callVi (as := [.int x3, .int x4, .int (6 : Int32), .int v9]) (st := [.int x2]) ddX11_fills_89 cvX11_120 rfl (wX11_marks 2 (Nat.le_refl _) x3 x4 (6 : Int32) v9 A hv) rfl (Nat.le_trans (m := 4) (by decide) hd) (Nat.le_of_ble_eq_true rfl) ?_
          clear hv
          refine ru_if_eq 99 ddX11_fills_92 (by decide) (fun hc => ?_) (fun hc => ?_)
          · rw [if_pos hc] at h
            refine ru_iconst (0 : Int32) ddX11_fills_99 rfl ?_
            refine ru_wk (L2 := [some (rurf E 83), some (.int x1), none, some (.int x3), some (.int x4)]) ⟨rfl, rfl, rfl, rfl, trivial⟩ ?_
            obtain ⟨rfl, rfl⟩ := ruS2 h
            exact J
          · rw [if_neg hc] at h
            refine ru_iconst (1 : Int32) ddX11_fills_95 rfl ?_
            refine ru_goto 100 ddX11_fills_96 (by decide) ?_
            refine ru_wk (L2 := [some (rurf E 83), some (.int x1), none, some (.int x3), some (.int x4)]) ⟨rfl, rfl, rfl, rfl, trivial⟩ ?_
            obtain ⟨rfl, rfl⟩ := ruS2 h
            exact J
theorem wX11_fills_l20 {E : ruE} {d : Nat} (hd : 4 ≤ d) {β : Type} {Q : Option Value → ruA → Prop} {res : β} (x1 : Int32) {k114 : Int32 → ruA → Option (β)} (hk114 : ∀ (x2 : Int32) (A : ruA), k114 x2 A = some res → ruW E mmX11_fills d Q 114 [none, none, some (.int x2), none, none] [] A) : ∀ (n : Nat) (x2 : Int32) (x3 : Int32) (A : ruA), fX11_fills_l20 x1 k114 n x2 x3 A = some res → ruW E mmX11_fills d Q 20 [some (rurf E 83), some (.int x1), some (.int x2), some (.int x3), none] [] A := by
  intro n
  induction n with
  | zero =>
    intro x2 x3 A h
    exact absurd h (by rw [fX11_fills_l20]; exact fun h => nomatch h)
  | succ n ih =>
    intro x2 x3 A h
    rw [fX11_fills_l20] at h
    refine ru_iload_n ddX11_fills_20 rfl ?_
    refine ru_aload_n ddX11_fills_21 rfl ?_
    refine ru_getR (r := 84) ddX11_fills_22 flX11_9 rfl rfl ?_
    refine ru_iconst (2 : Int32) ddX11_fills_25 rfl ?_
    obtain ⟨v2, hv, h⟩ := ruB_inv h
    refine ru_iald ddX11_fills_26 rfl hv ?_
    clear hv
    refine ru_icmp_ge 114 ddX11_fills_27 (by decide) (fun hc => ?_) (fun hc => ?_)
    · rw [if_pos hc] at h
      refine ru_wk (L2 := [none, none, some (.int x2), none, none]) ⟨rfl, trivial⟩ ?_
      exact hk114 x2 A h
    · rw [if_neg hc] at h
      refine ru_iconst (0 : Int32) ddX11_fills_30 rfl ?_
      refine ru_istore ddX11_fills_31 (by decide) rfl rfl ?_
      exact wX11_fills_l33 hd x1 x3 (fun v12 A13 h => by
            refine ru_iinc (x3 + (1 : Int32)) ddX11_fills_108 (by decide) rfl rfl rfl rfl ?_
            refine ru_goto 20 ddX11_fills_111 (by decide) ?_
            exact ih v12 (x3 + (1 : Int32)) A13 h) ruF x2 (0 : Int32) A h
theorem wX11_fills {E : ruE} (d : Nat) (hd : 4 ≤ d) (x1 : Int32) (A : ruA) {r : Int32} {B : ruA} (h : fX11_fills x1 A = some (r, B)) : ruC E mmX11_fills d [rurf E 83, .int x1] A (ruPr r B) := by
  refine ruC.of (L := [some (rurf E 83), some (.int x1), none, none, none]) (by decide) rfl (Nat.le_of_ble_eq_true rfl) rfl ?_
  unfold fX11_fills at h
  refine ru_aload_n ddX11_fills_0 rfl ?_
  refine ru_iload_n ddX11_fills_1 rfl ?_
  refine ru_iconst (1 : Int32) ddX11_fills_2 rfl ?_
  obtain ⟨v1, hv, h⟩ := ruB_inv h
  refine ru_callVi (as := [.int x1, .int (1 : Int32)]) (st := []) ddX11_fills_3 cvX11_87 rfl (wX11_is 2 (Nat.le_refl _) x1 (1 : Int32) A hv) rfl (Nat.le_trans (m := 4) (by decide) hd) (Nat.le_of_ble_eq_true rfl) ?_
  clear hv
  refine ru_if_ne 16 ddX11_fills_6 (by decide) (fun hc => ?_) (fun hc => ?_)
  · rw [if_neg hc] at h
    refine ru_iconst (0 : Int32) ddX11_fills_16 rfl ?_
    refine ru_istore_n ddX11_fills_17 (by decide) rfl rfl ?_
    refine ru_iconst (0 : Int32) ddX11_fills_18 rfl ?_
    refine ru_istore_n ddX11_fills_19 (by decide) rfl rfl ?_
    exact wX11_fills_l20 hd x1 (fun v14 A15 h => by
          refine ru_iload_n ddX11_fills_114 rfl ?_
          exact ru_iretW ddX11_fills_115 rfl h) ruF (0 : Int32) (0 : Int32) A h
  · rw [if_pos hc] at h
    refine ru_aload_n ddX11_fills_9 rfl ?_
    refine ru_ldc (v := (-1000001 : Int32)) ddX11_fills_10 ckX11_65 ?_
    obtain ⟨v16, A17, hv, h⟩ := ruB2_inv h
    refine ru_callVi (as := [.int (-1000001 : Int32)]) (st := []) ddX11_fills_12 cvX11_82 rfl (wX11_finding 1 (Nat.le_refl _) (-1000001 : Int32) A hv) rfl (Nat.le_trans (m := 4) (by decide) hd) (Nat.le_of_ble_eq_true rfl) ?_
    clear hv
    exact ru_iretW ddX11_fills_15 rfl h
theorem wX11_leaves {E : ruE} (d : Nat) (hd : 5 ≤ d) (x1 : Int32) (A : ruA) {r : Int32} {B : ruA} (h : fX11_leaves x1 A = some (r, B)) : ruC E mmX11_leaves d [rurf E 83, .int x1] A (ruPr r B) := by
  refine ruC.of (L := [some (rurf E 83), some (.int x1), none]) (by decide) rfl (Nat.le_of_ble_eq_true rfl) rfl ?_
  unfold fX11_leaves at h
  refine ru_aload_n ddX11_leaves_0 rfl ?_
  refine ru_iload_n ddX11_leaves_1 rfl ?_
  refine ru_iconst (2 : Int32) ddX11_leaves_2 rfl ?_
  obtain ⟨v1, hv, h⟩ := ruB_inv h
  refine ru_callVi (as := [.int x1, .int (2 : Int32)]) (st := []) ddX11_leaves_3 cvX11_87 rfl (wX11_is 2 (Nat.le_refl _) x1 (2 : Int32) A hv) rfl (Nat.le_trans (m := 5) (by decide) hd) (Nat.le_of_ble_eq_true rfl) ?_
  clear hv
  refine ru_if_ne 16 ddX11_leaves_6 (by decide) (fun hc => ?_) (fun hc => ?_)
  · rw [if_neg hc] at h
    refine ru_aload_n ddX11_leaves_16 rfl ?_
    refine ru_iload_n ddX11_leaves_17 rfl ?_
    refine ru_aload_n ddX11_leaves_18 rfl ?_
    refine ru_getR (r := 84) ddX11_leaves_19 flX11_9 rfl rfl ?_
    refine ru_iconst (0 : Int32) ddX11_leaves_22 rfl ?_
    obtain ⟨v2, hv, h⟩ := ruB_inv h
    refine ru_iald ddX11_leaves_23 rfl hv ?_
    clear hv
    obtain ⟨v3, hv, h⟩ := ruB_inv h
    refine ru_callVi (as := [.int x1, .int v2]) (st := []) ddX11_leaves_24 cvX11_98 rfl (wX11_hasSheet 2 (Nat.le_refl _) x1 v2 A hv) rfl (Nat.le_trans (m := 5) (by decide) hd) (Nat.le_of_ble_eq_true rfl) ?_
    clear hv
    refine ru_if_ne 37 ddX11_leaves_27 (by decide) (fun hc => ?_) (fun hc => ?_)
    · rw [if_neg hc] at h
      refine ru_aload_n ddX11_leaves_37 rfl ?_
      refine ru_iload_n ddX11_leaves_38 rfl ?_
      refine ru_aload_n ddX11_leaves_39 rfl ?_
      refine ru_getR (r := 84) ddX11_leaves_40 flX11_9 rfl rfl ?_
      refine ru_iconst (0 : Int32) ddX11_leaves_43 rfl ?_
      obtain ⟨v4, hv, h⟩ := ruB_inv h
      refine ru_iald ddX11_leaves_44 rfl hv ?_
      clear hv
      obtain ⟨v5, hv, h⟩ := ruB_inv h
      refine ru_callVi (as := [.int x1, .int v4]) (st := []) ddX11_leaves_45 cvX11_112 rfl (wX11_rights 4 (Nat.le_refl _) x1 v4 A hv) rfl (Nat.le_trans (m := 5) (by decide) hd) (Nat.le_of_ble_eq_true rfl) ?_
      clear hv
      refine ru_istore_n ddX11_leaves_48 (by decide) rfl rfl ?_
      refine ru_aload_n ddX11_leaves_49 rfl ?_
      refine ru_getR (r := 84) ddX11_leaves_50 flX11_9 rfl rfl ?_
      refine ru_iload_n ddX11_leaves_53 rfl ?_
      refine ru_aload_n ddX11_leaves_54 rfl ?_
      refine ru_getR (r := 84) ddX11_leaves_55 flX11_9 rfl rfl ?_
      refine ru_iconst (0 : Int32) ddX11_leaves_58 rfl ?_
      obtain ⟨v6, hv, h⟩ := ruB_inv h
      refine ru_iald ddX11_leaves_59 rfl hv ?_
      clear hv
      obtain ⟨v7, hv, h⟩ := ruB_inv h
      refine ru_callSi (as := [.int x1, .int v6]) (st := [rurf E 84]) ddX11_leaves_60 csX11_70 (wX11_sheetAt 1 (Nat.le_refl _) x1 v6 A hv) rfl (Nat.le_trans (m := 5) (by decide) hd) (Nat.le_of_ble_eq_true rfl) ?_
      clear hv
      refine ru_iconst (0 : Int32) ddX11_leaves_63 rfl ?_
      obtain ⟨A8, hv, h⟩ := ruB_inv h
      refine ru_iast ddX11_leaves_64 rfl hv ?_
      clear hv
      refine ru_iload_n ddX11_leaves_65 rfl ?_
      exact ru_iretW ddX11_leaves_66 rfl h
    · rw [if_pos hc] at h
      refine ru_aload_n ddX11_leaves_30 rfl ?_
      refine ru_ldc (v := (-1000004 : Int32)) ddX11_leaves_31 ckX11_127 ?_
      obtain ⟨v9, A10, hv, h⟩ := ruB2_inv h
      refine ru_callVi (as := [.int (-1000004 : Int32)]) (st := []) ddX11_leaves_33 cvX11_82 rfl (wX11_finding 1 (Nat.le_refl _) (-1000004 : Int32) A hv) rfl (Nat.le_trans (m := 5) (by decide) hd) (Nat.le_of_ble_eq_true rfl) ?_
      clear hv
      exact ru_iretW ddX11_leaves_36 rfl h
  · rw [if_pos hc] at h
    refine ru_aload_n ddX11_leaves_9 rfl ?_
    refine ru_ldc (v := (-1000001 : Int32)) ddX11_leaves_10 ckX11_65 ?_
    obtain ⟨v11, A12, hv, h⟩ := ruB2_inv h
    refine ru_callVi (as := [.int (-1000001 : Int32)]) (st := []) ddX11_leaves_12 cvX11_82 rfl (wX11_finding 1 (Nat.le_refl _) (-1000001 : Int32) A hv) rfl (Nat.le_trans (m := 5) (by decide) hd) (Nat.le_of_ble_eq_true rfl) ?_
    clear hv
    exact ru_iretW ddX11_leaves_15 rfl h
theorem wX11_isYear {E : ruE} (d : Nat) (hd : 2 ≤ d) (x0 : Int32) (A : ruA) {r : Int32} (h : fX11_isYear x0 = some r) : ruC E mmX11_isYear d [.int x0] A (ruPr r A) := by
  refine ruC.of (L := [some (.int x0)]) (by decide) rfl (Nat.le_of_ble_eq_true rfl) rfl ?_
  unfold fX11_isYear at h
  refine ru_iload_n ddX11_isYear_0 rfl ?_
  refine ru_iconst (0 : Int32) ddX11_isYear_1 rfl ?_
  refine ru_iconst (5 : Int32) ddX11_isYear_2 rfl ?_
  obtain ⟨v1, hv, h⟩ := ruB_inv h
  refine ru_callSi (as := [.int x0, .int (0 : Int32), .int (5 : Int32)]) (st := []) ddX11_isYear_3 csX11_66 (wX11_within 1 (Nat.le_refl _) x0 (0 : Int32) (5 : Int32) A hv) rfl (Nat.le_trans (m := 2) (by decide) hd) (Nat.le_of_ble_eq_true rfl) ?_
  clear hv
  obtain ⟨_, hz, h⟩ := ruB_inv h
  exact ru_zretP ddX11_isYear_6 rfl (rubz_eq hz) h
theorem wX11_kind {E : ruE} (d : Nat) (hd : 2 ≤ d) (x1 : Int32) (x2 : Int32) (x3 : Int32) (A : ruA) {r : Int32} (h : fX11_kind x1 x2 x3 A = some r) : ruC E mmX11_kind d [rurf E 83, .int x1, .int x2, .int x3] A (ruPr r A) := by
  refine ruC.of (L := [some (rurf E 83), some (.int x1), some (.int x2), some (.int x3)]) (by decide) rfl (Nat.le_of_ble_eq_true rfl) rfl ?_
  unfold fX11_kind at h
  refine ru_aload_n ddX11_kind_0 rfl ?_
  refine ru_getR (r := 84) ddX11_kind_1 flX11_9 rfl rfl ?_
  refine ru_iload_n ddX11_kind_4 rfl ?_
  refine ru_iload_n ddX11_kind_5 rfl ?_
  obtain ⟨v1, hv, h⟩ := ruB_inv h
  refine ru_callSi (as := [.int x1, .int x2]) (st := [rurf E 84]) ddX11_kind_6 csX11_70 (wX11_sheetAt 1 (Nat.le_refl _) x1 x2 A hv) rfl (Nat.le_trans (m := 2) (by decide) hd) (Nat.le_of_ble_eq_true rfl) ?_
  clear hv
  refine ru_bipush (13 : Int32) ddX11_kind_9 rfl ?_
  refine ru_iadd ddX11_kind_11 ?_
  refine ru_iload_n ddX11_kind_12 rfl ?_
  refine ru_iadd ddX11_kind_13 ?_
  obtain ⟨v2, hv, h⟩ := ruB_inv h
  refine ru_iald ddX11_kind_14 rfl hv ?_
  clear hv
  exact ru_iretP ddX11_kind_15 rfl h
theorem wX11_bubble {E : ruE} (d : Nat) (hd : 4 ≤ d) (x1 : Int32) (x2 : Int32) (x3 : Int32) (x4 : Int32) (A : ruA) {r : Int32} {B : ruA} (h : fX11_bubble x1 x2 x3 x4 A = some (r, B)) : ruC E mmX11_bubble d [rurf E 83, .int x1, .int x2, .int x3, .int x4] A (ruPr r B) := by
  refine ruC.of (L := [some (rurf E 83), some (.int x1), some (.int x2), some (.int x3), some (.int x4)]) (by decide) rfl (Nat.le_of_ble_eq_true rfl) rfl ?_
  unfold fX11_bubble at h
  refine ru_aload_n ddX11_bubble_0 rfl ?_
  refine ru_iload_n ddX11_bubble_1 rfl ?_
  refine ru_iconst (2 : Int32) ddX11_bubble_2 rfl ?_
  obtain ⟨v1, hv, h⟩ := ruB_inv h
  refine ru_callVi (as := [.int x1, .int (2 : Int32)]) (st := []) ddX11_bubble_3 cvX11_87 rfl (wX11_is 2 (Nat.le_refl _) x1 (2 : Int32) A hv) rfl (Nat.le_trans (m := 4) (by decide) hd) (Nat.le_of_ble_eq_true rfl) ?_
  clear hv
  refine ru_if_eq 33 ddX11_bubble_6 (by decide) (fun hc => ?_) (fun hc => ?_)
  · rw [if_pos hc] at h
    refine ru_aload_n ddX11_bubble_33 rfl ?_
    refine ru_ldc (v := (-1000001 : Int32)) ddX11_bubble_34 ckX11_65 ?_
    obtain ⟨v2, A3, hv, h⟩ := ruB2_inv h
    refine ru_callVi (as := [.int (-1000001 : Int32)]) (st := []) ddX11_bubble_36 cvX11_82 rfl (wX11_finding 1 (Nat.le_refl _) (-1000001 : Int32) A hv) rfl (Nat.le_trans (m := 4) (by decide) hd) (Nat.le_of_ble_eq_true rfl) ?_
    clear hv
    exact ru_iretW ddX11_bubble_39 rfl h
  · rw [if_neg hc] at h
    refine ru_iload_n ddX11_bubble_9 rfl ?_
    obtain ⟨v4, hv, h⟩ := ruB_inv h
    refine ru_callSi (as := [.int x2]) (st := []) ddX11_bubble_10 csX11_128 (wX11_isYear 2 (Nat.le_refl _) x2 A hv) rfl (Nat.le_trans (m := 4) (by decide) hd) (Nat.le_of_ble_eq_true rfl) ?_
    clear hv
    refine ru_if_eq 33 ddX11_bubble_13 (by decide) (fun hc => ?_) (fun hc => ?_)
    · rw [if_pos hc] at h
      refine ru_aload_n ddX11_bubble_33 rfl ?_
      refine ru_ldc (v := (-1000001 : Int32)) ddX11_bubble_34 ckX11_65 ?_
      obtain ⟨v5, A6, hv, h⟩ := ruB2_inv h
      refine ru_callVi (as := [.int (-1000001 : Int32)]) (st := []) ddX11_bubble_36 cvX11_82 rfl (wX11_finding 1 (Nat.le_refl _) (-1000001 : Int32) A hv) rfl (Nat.le_trans (m := 4) (by decide) hd) (Nat.le_of_ble_eq_true rfl) ?_
      clear hv
      exact ru_iretW ddX11_bubble_39 rfl h
    · rw [if_neg hc] at h
      refine ru_iload_n ddX11_bubble_16 rfl ?_
      obtain ⟨v7, hv, h⟩ := ruB_inv h
      refine ru_callSi (as := [.int x3]) (st := []) ddX11_bubble_17 csX11_78 (wX11_isQuestion 2 (Nat.le_refl _) x3 A hv) rfl (Nat.le_trans (m := 4) (by decide) hd) (Nat.le_of_ble_eq_true rfl) ?_
      clear hv
      refine ru_if_eq 33 ddX11_bubble_20 (by decide) (fun hc => ?_) (fun hc => ?_)
      · rw [if_pos hc] at h
        refine ru_aload_n ddX11_bubble_33 rfl ?_
        refine ru_ldc (v := (-1000001 : Int32)) ddX11_bubble_34 ckX11_65 ?_
        obtain ⟨v8, A9, hv, h⟩ := ruB2_inv h
        refine ru_callVi (as := [.int (-1000001 : Int32)]) (st := []) ddX11_bubble_36 cvX11_82 rfl (wX11_finding 1 (Nat.le_refl _) (-1000001 : Int32) A hv) rfl (Nat.le_trans (m := 4) (by decide) hd) (Nat.le_of_ble_eq_true rfl) ?_
        clear hv
        exact ru_iretW ddX11_bubble_39 rfl h
      · rw [if_neg hc] at h
        refine ru_iload ddX11_bubble_23 rfl ?_
        refine ru_iconst (0 : Int32) ddX11_bubble_25 rfl ?_
        refine ru_iconst (2 : Int32) ddX11_bubble_26 rfl ?_
        obtain ⟨v10, hv, h⟩ := ruB_inv h
        refine ru_callSi (as := [.int x4, .int (0 : Int32), .int (2 : Int32)]) (st := []) ddX11_bubble_27 csX11_66 (wX11_within 1 (Nat.le_refl _) x4 (0 : Int32) (2 : Int32) A hv) rfl (Nat.le_trans (m := 4) (by decide) hd) (Nat.le_of_ble_eq_true rfl) ?_
        clear hv
        refine ru_if_ne 40 ddX11_bubble_30 (by decide) (fun hc => ?_) (fun hc => ?_)
        · rw [if_neg hc] at h
          refine ru_aload_n ddX11_bubble_40 rfl ?_
          refine ru_iload_n ddX11_bubble_41 rfl ?_
          refine ru_iload_n ddX11_bubble_42 rfl ?_
          obtain ⟨v11, hv, h⟩ := ruB_inv h
          refine ru_callVi (as := [.int x1, .int x2]) (st := []) ddX11_bubble_43 cvX11_98 rfl (wX11_hasSheet 2 (Nat.le_refl _) x1 x2 A hv) rfl (Nat.le_trans (m := 4) (by decide) hd) (Nat.le_of_ble_eq_true rfl) ?_
          clear hv
          refine ru_if_ne 56 ddX11_bubble_46 (by decide) (fun hc => ?_) (fun hc => ?_)
          · rw [if_neg hc] at h
            refine ru_iload ddX11_bubble_56 rfl ?_
            refine ru_if_ne 71 ddX11_bubble_58 (by decide) (fun hc => ?_) (fun hc => ?_)
            · rw [if_neg hc] at h
              refine ru_iload ddX11_bubble_71 rfl ?_
              refine ru_iconst (1 : Int32) ddX11_bubble_73 rfl ?_
              refine ru_icmp_ne 87 ddX11_bubble_74 (by decide) (fun hc => ?_) (fun hc => ?_)
              · rw [if_neg hc] at h
                refine ru_aload_n ddX11_bubble_87 rfl ?_
                refine ru_iload_n ddX11_bubble_88 rfl ?_
                refine ru_iload_n ddX11_bubble_89 rfl ?_
                refine ru_iload_n ddX11_bubble_90 rfl ?_
                obtain ⟨v12, hv, h⟩ := ruB_inv h
                refine ru_callVi (as := [.int x1, .int x2, .int x3]) (st := []) ddX11_bubble_91 cvX11_101 rfl (wX11_isRight 3 (Nat.le_refl _) x1 x2 x3 A hv) rfl (Nat.le_trans (m := 4) (by decide) hd) (Nat.le_of_ble_eq_true rfl) ?_
                clear hv
                refine ru_if_eq 101 ddX11_bubble_94 (by decide) (fun hc => ?_) (fun hc => ?_)
                · rw [if_pos hc] at h
                  refine ru_iconst (0 : Int32) ddX11_bubble_101 rfl ?_
                  exact ru_iretW ddX11_bubble_102 rfl h
                · rw [if_neg hc] at h
                  refine ru_iconst (1 : Int32) ddX11_bubble_97 rfl ?_
                  refine ru_goto 102 ddX11_bubble_98 (by decide) ?_
                  exact ru_iretW ddX11_bubble_102 rfl h
              · rw [if_pos hc] at h
                refine ru_aload_n ddX11_bubble_77 rfl ?_
                refine ru_iload_n ddX11_bubble_78 rfl ?_
                refine ru_iload_n ddX11_bubble_79 rfl ?_
                refine ru_iload_n ddX11_bubble_80 rfl ?_
                obtain ⟨v13, hv, h⟩ := ruB_inv h
                refine ru_callVi (as := [.int x1, .int x2, .int x3]) (st := []) ddX11_bubble_81 cvX11_131 rfl (wX11_kind 2 (Nat.le_refl _) x1 x2 x3 A hv) rfl (Nat.le_trans (m := 4) (by decide) hd) (Nat.le_of_ble_eq_true rfl) ?_
                clear hv
                refine ru_goto 102 ddX11_bubble_84 (by decide) ?_
                exact ru_iretW ddX11_bubble_102 rfl h
            · rw [if_pos hc] at h
              refine ru_aload_n ddX11_bubble_61 rfl ?_
              refine ru_iload_n ddX11_bubble_62 rfl ?_
              refine ru_iload_n ddX11_bubble_63 rfl ?_
              refine ru_iload_n ddX11_bubble_64 rfl ?_
              obtain ⟨v14, hv, h⟩ := ruB_inv h
              refine ru_callVi (as := [.int x1, .int x2, .int x3]) (st := []) ddX11_bubble_65 cvX11_74 rfl (wX11_choice 2 (Nat.le_refl _) x1 x2 x3 A hv) rfl (Nat.le_trans (m := 4) (by decide) hd) (Nat.le_of_ble_eq_true rfl) ?_
              clear hv
              refine ru_goto 102 ddX11_bubble_68 (by decide) ?_
              exact ru_iretW ddX11_bubble_102 rfl h
          · rw [if_pos hc] at h
            refine ru_aload_n ddX11_bubble_49 rfl ?_
            refine ru_ldc (v := (-1000004 : Int32)) ddX11_bubble_50 ckX11_127 ?_
            obtain ⟨v15, A16, hv, h⟩ := ruB2_inv h
            refine ru_callVi (as := [.int (-1000004 : Int32)]) (st := []) ddX11_bubble_52 cvX11_82 rfl (wX11_finding 1 (Nat.le_refl _) (-1000004 : Int32) A hv) rfl (Nat.le_trans (m := 4) (by decide) hd) (Nat.le_of_ble_eq_true rfl) ?_
            clear hv
            exact ru_iretW ddX11_bubble_55 rfl h
        · rw [if_pos hc] at h
          refine ru_aload_n ddX11_bubble_33 rfl ?_
          refine ru_ldc (v := (-1000001 : Int32)) ddX11_bubble_34 ckX11_65 ?_
          obtain ⟨v17, A18, hv, h⟩ := ruB2_inv h
          refine ru_callVi (as := [.int (-1000001 : Int32)]) (st := []) ddX11_bubble_36 cvX11_82 rfl (wX11_finding 1 (Nat.le_refl _) (-1000001 : Int32) A hv) rfl (Nat.le_trans (m := 4) (by decide) hd) (Nat.le_of_ble_eq_true rfl) ?_
          clear hv
          exact ru_iretW ddX11_bubble_39 rfl h
theorem wX11_unfit_l15 {E : ruE} {d : Nat} (hd : 4 ≤ d) {β : Type} {Q : Option Value → ruA → Prop} {res : β} (x1 : Int32) (x2 : Int32) (x4 : Int32) (A : ruA) {k81 : Int32 → Option (β)} (hk81 : ∀ (x3 : Int32), k81 x3 = some res → ruW E mmX11_unfit d Q 81 [some (rurf E 83), some (.int x1), some (.int x2), some (.int x3), some (.int x4), none] [] A) : ∀ (n : Nat) (x3 : Int32) (x5 : Int32), fX11_unfit_l15 x1 x2 x4 A k81 n x3 x5 = some res → ruW E mmX11_unfit d Q 15 [some (rurf E 83), some (.int x1), some (.int x2), some (.int x3), some (.int x4), some (.int x5)] [] A := by
  intro n
  induction n with
  | zero =>
    intro x3 x5 h
    exact absurd h (by rw [fX11_unfit_l15]; exact fun h => nomatch h)
  | succ n ih =>
    intro x3 x5 h
    rw [fX11_unfit_l15] at h
    refine ru_iload ddX11_unfit_15 rfl ?_
    refine ru_bipush (12 : Int32) ddX11_unfit_17 rfl ?_
    refine ru_icmp_ge 81 ddX11_unfit_19 (by decide) (fun hc => ?_) (fun hc => ?_)
    · rw [if_pos hc] at h
      refine ru_wk (L2 := [some (rurf E 83), some (.int x1), some (.int x2), some (.int x3), some (.int x4), none]) ⟨rfl, rfl, rfl, rfl, rfl, trivial⟩ ?_
      exact hk81 x3 h
    · rw [if_neg hc] at h
      refine ru_iload_n ddX11_unfit_22 rfl ?_
      refine ru_aload_n ddX11_unfit_23 rfl ?_
      refine ru_iload_n ddX11_unfit_24 rfl ?_
      refine ru_iload_n ddX11_unfit_25 rfl ?_
      refine ru_iload ddX11_unfit_26 rfl ?_
      obtain ⟨v1, hv, h⟩ := ruB_inv h
      refine ru_callVi (as := [.int x1, .int x2, .int x4]) (st := [.int x3]) ddX11_unfit_28 cvX11_101 rfl (wX11_isRight 3 (Nat.le_refl _) x1 x2 x4 A hv) rfl (Nat.le_trans (m := 4) (by decide) hd) (Nat.le_of_ble_eq_true rfl) ?_
      clear hv
      obtain ⟨v2, hq, h⟩ := ruB_inv h
      have J : ruW E mmX11_unfit d Q 73 [some (rurf E 83), some (.int x1), some (.int x2), none, some (.int x4), some (.int x5)] [.int v2, .int x3] A := by
          refine ru_iadd ddX11_unfit_73 ?_
          refine ru_istore_n ddX11_unfit_74 (by decide) rfl rfl ?_
          refine ru_iinc (x5 + (1 : Int32)) ddX11_unfit_75 (by decide) rfl rfl rfl rfl ?_
          refine ru_goto 15 ddX11_unfit_78 (by decide) ?_
          exact ih (x3 + v2) (x5 + (1 : Int32)) h
      replace h := hq
      clear hq
      refine ru_if_eq 72 ddX11_unfit_31 (by decide) (fun hc => ?_) (fun hc => ?_)
      · rw [if_pos hc] at h
        refine ru_iconst (0 : Int32) ddX11_unfit_72 rfl ?_
        refine ru_wk (L2 := [some (rurf E 83), some (.int x1), some (.int x2), none, some (.int x4), some (.int x5)]) ⟨rfl, rfl, rfl, rfl, rfl, trivial⟩ ?_
        obtain rfl := ruS1 h
        exact J
      · rw [if_neg hc] at h
        refine ru_aload_n ddX11_unfit_34 rfl ?_
        refine ru_iload_n ddX11_unfit_35 rfl ?_
        refine ru_iload_n ddX11_unfit_36 rfl ?_
        refine ru_iload ddX11_unfit_37 rfl ?_
        obtain ⟨v3, hv, h⟩ := ruB_inv h
        refine ru_callVi (as := [.int x1, .int x2, .int x5]) (st := [.int x3]) ddX11_unfit_39 cvX11_101 rfl (wX11_isRight 3 (Nat.le_refl _) x1 x2 x5 A hv) rfl (Nat.le_trans (m := 4) (by decide) hd) (Nat.le_of_ble_eq_true rfl) ?_
        clear hv
        refine ru_if_ne 72 ddX11_unfit_42 (by decide) (fun hc => ?_) (fun hc => ?_)
        · rw [if_neg hc] at h
          refine ru_iconst (0 : Int32) ddX11_unfit_72 rfl ?_
          refine ru_wk (L2 := [some (rurf E 83), some (.int x1), some (.int x2), none, some (.int x4), some (.int x5)]) ⟨rfl, rfl, rfl, rfl, rfl, trivial⟩ ?_
          obtain rfl := ruS1 h
          exact J
        · rw [if_pos hc] at h
          refine ru_aload_n ddX11_unfit_45 rfl ?_
          refine ru_getR (r := 84) ddX11_unfit_46 flX11_9 rfl rfl ?_
          refine ru_bipush (20 : Int32) ddX11_unfit_49 rfl ?_
          refine ru_iload ddX11_unfit_51 rfl ?_
          refine ru_iadd ddX11_unfit_53 ?_
          obtain ⟨v4, hv, h⟩ := ruB_inv h
          refine ru_iald ddX11_unfit_54 rfl hv ?_
          clear hv
          refine ru_aload_n ddX11_unfit_55 rfl ?_
          refine ru_getR (r := 84) ddX11_unfit_56 flX11_9 rfl rfl ?_
          refine ru_bipush (20 : Int32) ddX11_unfit_59 rfl ?_
          refine ru_iload ddX11_unfit_61 rfl ?_
          refine ru_iadd ddX11_unfit_63 ?_
          obtain ⟨v5, hv, h⟩ := ruB_inv h
          refine ru_iald ddX11_unfit_64 rfl hv ?_
          clear hv
          refine ru_icmp_le 72 ddX11_unfit_65 (by decide) (fun hc => ?_) (fun hc => ?_)
          · rw [if_pos hc] at h
            refine ru_iconst (0 : Int32) ddX11_unfit_72 rfl ?_
            refine ru_wk (L2 := [some (rurf E 83), some (.int x1), some (.int x2), none, some (.int x4), some (.int x5)]) ⟨rfl, rfl, rfl, rfl, rfl, trivial⟩ ?_
            obtain rfl := ruS1 h
            exact J
          · rw [if_neg hc] at h
            refine ru_iconst (1 : Int32) ddX11_unfit_68 rfl ?_
            refine ru_goto 73 ddX11_unfit_69 (by decide) ?_
            refine ru_wk (L2 := [some (rurf E 83), some (.int x1), some (.int x2), none, some (.int x4), some (.int x5)]) ⟨rfl, rfl, rfl, rfl, rfl, trivial⟩ ?_
            obtain rfl := ruS1 h
            exact J
theorem wX11_unfit_l5 {E : ruE} {d : Nat} (hd : 4 ≤ d) {β : Type} {Q : Option Value → ruA → Prop} {res : β} (x1 : Int32) (x2 : Int32) (A : ruA) {k87 : Int32 → Option (β)} (hk87 : ∀ (x3 : Int32), k87 x3 = some res → ruW E mmX11_unfit d Q 87 [none, none, none, some (.int x3), none, none] [] A) : ∀ (n : Nat) (x3 : Int32) (x4 : Int32), fX11_unfit_l5 x1 x2 A k87 n x3 x4 = some res → ruW E mmX11_unfit d Q 5 [some (rurf E 83), some (.int x1), some (.int x2), some (.int x3), some (.int x4), none] [] A := by
  intro n
  induction n with
  | zero =>
    intro x3 x4 h
    exact absurd h (by rw [fX11_unfit_l5]; exact fun h => nomatch h)
  | succ n ih =>
    intro x3 x4 h
    rw [fX11_unfit_l5] at h
    refine ru_iload ddX11_unfit_5 rfl ?_
    refine ru_bipush (12 : Int32) ddX11_unfit_7 rfl ?_
    refine ru_icmp_ge 87 ddX11_unfit_9 (by decide) (fun hc => ?_) (fun hc => ?_)
    · rw [if_pos hc] at h
      refine ru_wk (L2 := [none, none, none, some (.int x3), none, none]) ⟨rfl, trivial⟩ ?_
      exact hk87 x3 h
    · rw [if_neg hc] at h
      refine ru_iconst (0 : Int32) ddX11_unfit_12 rfl ?_
      refine ru_istore ddX11_unfit_13 (by decide) rfl rfl ?_
      exact wX11_unfit_l15 hd x1 x2 x4 A (fun v6 h => by
            refine ru_iinc (x4 + (1 : Int32)) ddX11_unfit_81 (by decide) rfl rfl rfl rfl ?_
            refine ru_goto 5 ddX11_unfit_84 (by decide) ?_
            exact ih v6 (x4 + (1 : Int32)) h) ruF x3 (0 : Int32) h
theorem wX11_unfit {E : ruE} (d : Nat) (hd : 4 ≤ d) (x1 : Int32) (x2 : Int32) (A : ruA) {r : Int32} (h : fX11_unfit x1 x2 A = some r) : ruC E mmX11_unfit d [rurf E 83, .int x1, .int x2] A (ruPr r A) := by
  refine ruC.of (L := [some (rurf E 83), some (.int x1), some (.int x2), none, none, none]) (by decide) rfl (Nat.le_of_ble_eq_true rfl) rfl ?_
  unfold fX11_unfit at h
  refine ru_iconst (0 : Int32) ddX11_unfit_0 rfl ?_
  refine ru_istore_n ddX11_unfit_1 (by decide) rfl rfl ?_
  refine ru_iconst (0 : Int32) ddX11_unfit_2 rfl ?_
  refine ru_istore ddX11_unfit_3 (by decide) rfl rfl ?_
  exact wX11_unfit_l5 hd x1 x2 A (fun v7 h => by
        refine ru_iload_n ddX11_unfit_87 rfl ?_
        exact ru_iretP ddX11_unfit_88 rfl h) ruF (0 : Int32) (0 : Int32) h
theorem wX11_above {E : ruE} (d : Nat) (hd : 1 ≤ d) (x0 : Int32) (A : ruA) {r : Int32} (h : fX11_above x0 = some r) : ruC E mmX11_above d [.int x0] A (ruPr r A) := by
  refine ruC.of (L := [some (.int x0)]) (by decide) rfl (Nat.le_of_ble_eq_true rfl) rfl ?_
  unfold fX11_above at h
  refine ru_iload_n ddX11_above_0 rfl ?_
  refine ru_iconst (2 : Int32) ddX11_above_1 rfl ?_
  refine ru_icmp_eq 11 ddX11_above_2 (by decide) (fun hc => ?_) (fun hc => ?_)
  · rw [if_pos hc] at h
    refine ru_iconst (1 : Int32) ddX11_above_11 rfl ?_
    refine ru_goto 34 ddX11_above_12 (by decide) ?_
    exact ru_iretP ddX11_above_34 rfl h
  · rw [if_neg hc] at h
    refine ru_iload_n ddX11_above_5 rfl ?_
    refine ru_bipush (7 : Int32) ddX11_above_6 rfl ?_
    refine ru_icmp_ne 15 ddX11_above_8 (by decide) (fun hc => ?_) (fun hc => ?_)
    · rw [if_neg hc] at h
      refine ru_iload_n ddX11_above_15 rfl ?_
      refine ru_bipush (6 : Int32) ddX11_above_16 rfl ?_
      refine ru_icmp_ne 25 ddX11_above_18 (by decide) (fun hc => ?_) (fun hc => ?_)
      · rw [if_neg hc] at h
        refine ru_iload_n ddX11_above_25 rfl ?_
        refine ru_if_ne 33 ddX11_above_26 (by decide) (fun hc => ?_) (fun hc => ?_)
        · rw [if_neg hc] at h
          refine ru_iconst (0 : Int32) ddX11_above_33 rfl ?_
          exact ru_iretP ddX11_above_34 rfl h
        · rw [if_pos hc] at h
          refine ru_iconst (-1 : Int32) ddX11_above_29 rfl ?_
          refine ru_goto 34 ddX11_above_30 (by decide) ?_
          exact ru_iretP ddX11_above_34 rfl h
      · rw [if_pos hc] at h
        refine ru_iconst (5 : Int32) ddX11_above_21 rfl ?_
        refine ru_goto 34 ddX11_above_22 (by decide) ?_
        exact ru_iretP ddX11_above_34 rfl h
    · rw [if_pos hc] at h
      refine ru_iconst (1 : Int32) ddX11_above_11 rfl ?_
      refine ru_goto 34 ddX11_above_12 (by decide) ?_
      exact ru_iretP ddX11_above_34 rfl h
theorem wX11_isUnder_l2 {E : ruE} {d : Nat} (hd : 2 ≤ d) {β : Type} {Q : Option Value → ruA → Prop} {res : β} (x1 : Int32) (A : ruA) {k19 : Int32 → Option (β)} (hk19 : ∀ (x2 : Int32), k19 x2 = some res → ruW E mmX11_isUnder d Q 19 [none, none, some (.int x2)] [] A) : ∀ (n : Nat) (x2 : Int32), fX11_isUnder_l2 x1 k19 n x2 = some res → ruW E mmX11_isUnder d Q 2 [none, some (.int x1), some (.int x2)] [] A := by
  intro n
  induction n with
  | zero =>
    intro x2 h
    exact absurd h (by rw [fX11_isUnder_l2]; exact fun h => nomatch h)
  | succ n ih =>
    intro x2 h
    rw [fX11_isUnder_l2] at h
    refine ru_iload_n ddX11_isUnder_2 rfl ?_
    refine ru_if_lt 19 ddX11_isUnder_3 (by decide) (fun hc => ?_) (fun hc => ?_)
    · rw [if_pos hc] at h
      refine ru_wk (L2 := [none, none, some (.int x2)]) ⟨rfl, trivial⟩ ?_
      exact hk19 x2 h
    · rw [if_neg hc] at h
      refine ru_iload_n ddX11_isUnder_6 rfl ?_
      refine ru_iload_n ddX11_isUnder_7 rfl ?_
      refine ru_icmp_eq 19 ddX11_isUnder_8 (by decide) (fun hc => ?_) (fun hc => ?_)
      · rw [if_pos hc] at h
        refine ru_wk (L2 := [none, none, some (.int x2)]) ⟨rfl, trivial⟩ ?_
        exact hk19 x2 h
      · rw [if_neg hc] at h
        refine ru_iload_n ddX11_isUnder_11 rfl ?_
        obtain ⟨v1, hv, h⟩ := ruB_inv h
        refine ru_callSi (as := [.int x2]) (st := []) ddX11_isUnder_12 csX11_143 (wX11_above 1 (Nat.le_refl _) x2 A hv) rfl (Nat.le_trans (m := 2) (by decide) hd) (Nat.le_of_ble_eq_true rfl) ?_
        clear hv
        refine ru_istore_n ddX11_isUnder_15 (by decide) rfl rfl ?_
        refine ru_goto 2 ddX11_isUnder_16 (by decide) ?_
        exact ih v1 h
theorem wX11_isUnder {E : ruE} (d : Nat) (hd : 2 ≤ d) (x0 : Int32) (x1 : Int32) (A : ruA) {r : Int32} (h : fX11_isUnder x0 x1 = some r) : ruC E mmX11_isUnder d [.int x0, .int x1] A (ruPr r A) := by
  refine ruC.of (L := [some (.int x0), some (.int x1), none]) (by decide) rfl (Nat.le_of_ble_eq_true rfl) rfl ?_
  unfold fX11_isUnder at h
  refine ru_iload_n ddX11_isUnder_0 rfl ?_
  refine ru_istore_n ddX11_isUnder_1 (by decide) rfl rfl ?_
  refine ru_wk (L2 := [none, some (.int x1), some (.int x0)]) ⟨rfl, rfl, trivial⟩ ?_
  exact wX11_isUnder_l2 hd x1 A (fun v2 h => by
        refine ru_iload_n ddX11_isUnder_19 rfl ?_
        refine ru_if_lt 27 ddX11_isUnder_20 (by decide) (fun hc => ?_) (fun hc => ?_)
        · rw [if_pos hc] at h
          refine ru_iconst (0 : Int32) ddX11_isUnder_27 rfl ?_
          exact ru_zretP ddX11_isUnder_28 rfl (Or.inl rfl) h
        · rw [if_neg hc] at h
          refine ru_iconst (1 : Int32) ddX11_isUnder_23 rfl ?_
          refine ru_goto 28 ddX11_isUnder_24 (by decide) ?_
          exact ru_zretP ddX11_isUnder_28 rfl (Or.inr rfl) h) ruF x0 h
theorem wX11_putsOn_l5 {E : ruE} {d : Nat} (hd : 3 ≤ d) {β : Type} {Q : Option Value → ruA → Prop} {res : β} (x1 : Int32) (x2 : Int32) (A : ruA) {k53 : Int32 → Option (β)} (hk53 : ∀ (x3 : Int32), k53 x3 = some res → ruW E mmX11_putsOn d Q 53 [none, none, none, some (.int x3), none] [] A) : ∀ (n : Nat) (x3 : Int32) (x4 : Int32), fX11_putsOn_l5 x1 x2 A k53 n x3 x4 = some res → ruW E mmX11_putsOn d Q 5 [some (rurf E 83), some (.int x1), some (.int x2), some (.int x3), some (.int x4)] [] A := by
  intro n
  induction n with
  | zero =>
    intro x3 x4 h
    exact absurd h (by rw [fX11_putsOn_l5]; exact fun h => nomatch h)
  | succ n ih =>
    intro x3 x4 h
    rw [fX11_putsOn_l5] at h
    refine ru_iload ddX11_putsOn_5 rfl ?_
    refine ru_bipush (12 : Int32) ddX11_putsOn_7 rfl ?_
    refine ru_icmp_ge 53 ddX11_putsOn_9 (by decide) (fun hc => ?_) (fun hc => ?_)
    · rw [if_pos hc] at h
      refine ru_wk (L2 := [none, none, none, some (.int x3), none]) ⟨rfl, trivial⟩ ?_
      exact hk53 x3 h
    · rw [if_neg hc] at h
      refine ru_iload_n ddX11_putsOn_12 rfl ?_
      refine ru_aload_n ddX11_putsOn_13 rfl ?_
      refine ru_iload_n ddX11_putsOn_14 rfl ?_
      refine ru_iload_n ddX11_putsOn_15 rfl ?_
      refine ru_iload ddX11_putsOn_16 rfl ?_
      obtain ⟨v1, hv, h⟩ := ruB_inv h
      refine ru_callVi (as := [.int x1, .int x2, .int x4]) (st := [.int x3]) ddX11_putsOn_18 cvX11_74 rfl (wX11_choice 2 (Nat.le_refl _) x1 x2 x4 A hv) rfl (Nat.le_trans (m := 3) (by decide) hd) (Nat.le_of_ble_eq_true rfl) ?_
      clear hv
      refine ru_iconst (-1 : Int32) ddX11_putsOn_21 rfl ?_
      obtain ⟨v2, hq, h⟩ := ruB_inv h
      have J : ruW E mmX11_putsOn d Q 45 [some (rurf E 83), some (.int x1), some (.int x2), none, some (.int x4)] [.int v2, .int x3] A := by
          refine ru_iadd ddX11_putsOn_45 ?_
          refine ru_istore_n ddX11_putsOn_46 (by decide) rfl rfl ?_
          refine ru_iinc (x4 + (1 : Int32)) ddX11_putsOn_47 (by decide) rfl rfl rfl rfl ?_
          refine ru_goto 5 ddX11_putsOn_50 (by decide) ?_
          exact ih (x3 + v2) (x4 + (1 : Int32)) h
      replace h := hq
      clear hq
      refine ru_icmp_eq 44 ddX11_putsOn_22 (by decide) (fun hc => ?_) (fun hc => ?_)
      · rw [if_pos hc] at h
        refine ru_iconst (0 : Int32) ddX11_putsOn_44 rfl ?_
        refine ru_wk (L2 := [some (rurf E 83), some (.int x1), some (.int x2), none, some (.int x4)]) ⟨rfl, rfl, rfl, rfl, trivial⟩ ?_
        obtain rfl := ruS1 h
        exact J
      · rw [if_neg hc] at h
        refine ru_aload_n ddX11_putsOn_25 rfl ?_
        refine ru_iload_n ddX11_putsOn_26 rfl ?_
        refine ru_iload_n ddX11_putsOn_27 rfl ?_
        refine ru_iload ddX11_putsOn_28 rfl ?_
        obtain ⟨v3, hv, h⟩ := ruB_inv h
        refine ru_callVi (as := [.int x1, .int x2, .int x4]) (st := [.int x3]) ddX11_putsOn_30 cvX11_131 rfl (wX11_kind 2 (Nat.le_refl _) x1 x2 x4 A hv) rfl (Nat.le_trans (m := 3) (by decide) hd) (Nat.le_of_ble_eq_true rfl) ?_
        clear hv
        refine ru_iconst (5 : Int32) ddX11_putsOn_33 rfl ?_
        obtain ⟨v4, hv, h⟩ := ruB_inv h
        refine ru_callSi (as := [.int v3, .int (5 : Int32)]) (st := [.int x3]) ddX11_putsOn_34 csX11_134 (wX11_isUnder 2 (Nat.le_refl _) v3 (5 : Int32) A hv) rfl (Nat.le_trans (m := 3) (by decide) hd) (Nat.le_of_ble_eq_true rfl) ?_
        clear hv
        refine ru_if_eq 44 ddX11_putsOn_37 (by decide) (fun hc => ?_) (fun hc => ?_)
        · rw [if_pos hc] at h
          refine ru_iconst (0 : Int32) ddX11_putsOn_44 rfl ?_
          refine ru_wk (L2 := [some (rurf E 83), some (.int x1), some (.int x2), none, some (.int x4)]) ⟨rfl, rfl, rfl, rfl, trivial⟩ ?_
          obtain rfl := ruS1 h
          exact J
        · rw [if_neg hc] at h
          refine ru_iconst (1 : Int32) ddX11_putsOn_40 rfl ?_
          refine ru_goto 45 ddX11_putsOn_41 (by decide) ?_
          refine ru_wk (L2 := [some (rurf E 83), some (.int x1), some (.int x2), none, some (.int x4)]) ⟨rfl, rfl, rfl, rfl, trivial⟩ ?_
          obtain rfl := ruS1 h
          exact J
theorem wX11_putsOn {E : ruE} (d : Nat) (hd : 3 ≤ d) (x1 : Int32) (x2 : Int32) (A : ruA) {r : Int32} (h : fX11_putsOn x1 x2 A = some r) : ruC E mmX11_putsOn d [rurf E 83, .int x1, .int x2] A (ruPr r A) := by
  refine ruC.of (L := [some (rurf E 83), some (.int x1), some (.int x2), none, none]) (by decide) rfl (Nat.le_of_ble_eq_true rfl) rfl ?_
  unfold fX11_putsOn at h
  refine ru_iconst (0 : Int32) ddX11_putsOn_0 rfl ?_
  refine ru_istore_n ddX11_putsOn_1 (by decide) rfl rfl ?_
  refine ru_iconst (0 : Int32) ddX11_putsOn_2 rfl ?_
  refine ru_istore ddX11_putsOn_3 (by decide) rfl rfl ?_
  exact wX11_putsOn_l5 hd x1 x2 A (fun v5 h => by
        refine ru_iload_n ddX11_putsOn_53 rfl ?_
        exact ru_iretP ddX11_putsOn_54 rfl h) ruF (0 : Int32) (0 : Int32) h
theorem wX11_sheetIs_l105 {E : ruE} {d : Nat} (hd : 5 ≤ d) {β : Type} {Q : Option Value → ruA → Prop} {res : β} (x1 : Int32) (x2 : Int32) (A : ruA) {k140 : Int32 → Option (β)} (hk140 : ∀ (x4 : Int32), k140 x4 = some res → ruW E mmX11_sheetIs d Q 140 [none, none, none, none, some (.int x4), none] [] A) : ∀ (n : Nat) (x4 : Int32) (x5 : Int32), fX11_sheetIs_l105 x1 x2 A k140 n x4 x5 = some res → ruW E mmX11_sheetIs d Q 105 [some (rurf E 83), some (.int x1), some (.int x2), none, some (.int x4), some (.int x5)] [] A := by
  intro n
  induction n with
  | zero =>
    intro x4 x5 h
    exact absurd h (by rw [fX11_sheetIs_l105]; exact fun h => nomatch h)
  | succ n ih =>
    intro x4 x5 h
    rw [fX11_sheetIs_l105] at h
    refine ru_iload ddX11_sheetIs_105 rfl ?_
    refine ru_bipush (12 : Int32) ddX11_sheetIs_107 rfl ?_
    refine ru_icmp_ge 140 ddX11_sheetIs_109 (by decide) (fun hc => ?_) (fun hc => ?_)
    · rw [if_pos hc] at h
      refine ru_wk (L2 := [none, none, none, none, some (.int x4), none]) ⟨rfl, trivial⟩ ?_
      exact hk140 x4 h
    · rw [if_neg hc] at h
      refine ru_iload ddX11_sheetIs_112 rfl ?_
      refine ru_aload_n ddX11_sheetIs_114 rfl ?_
      refine ru_iload_n ddX11_sheetIs_115 rfl ?_
      refine ru_iload_n ddX11_sheetIs_116 rfl ?_
      refine ru_iload ddX11_sheetIs_117 rfl ?_
      obtain ⟨v10, hv, h⟩ := ruB_inv h
      refine ru_callVi (as := [.int x1, .int x2, .int x5]) (st := [.int x4]) ddX11_sheetIs_119 cvX11_74 rfl (wX11_choice 2 (Nat.le_refl _) x1 x2 x5 A hv) rfl (Nat.le_trans (m := 5) (by decide) hd) (Nat.le_of_ble_eq_true rfl) ?_
      clear hv
      refine ru_iconst (-1 : Int32) ddX11_sheetIs_122 rfl ?_
      obtain ⟨v11, hq, h⟩ := ruB_inv h
      have J : ruW E mmX11_sheetIs d Q 131 [some (rurf E 83), some (.int x1), some (.int x2), none, none, some (.int x5)] [.int v11, .int x4] A := by
          refine ru_iadd ddX11_sheetIs_131 ?_
          refine ru_istore ddX11_sheetIs_132 (by decide) rfl rfl ?_
          refine ru_iinc (x5 + (1 : Int32)) ddX11_sheetIs_134 (by decide) rfl rfl rfl rfl ?_
          refine ru_goto 105 ddX11_sheetIs_137 (by decide) ?_
          exact ih (x4 + v11) (x5 + (1 : Int32)) h
      replace h := hq
      clear hq
      refine ru_icmp_ne 130 ddX11_sheetIs_123 (by decide) (fun hc => ?_) (fun hc => ?_)
      · rw [if_neg hc] at h
        refine ru_iconst (0 : Int32) ddX11_sheetIs_130 rfl ?_
        refine ru_wk (L2 := [some (rurf E 83), some (.int x1), some (.int x2), none, none, some (.int x5)]) ⟨rfl, rfl, rfl, rfl, trivial⟩ ?_
        obtain rfl := ruS1 h
        exact J
      · rw [if_pos hc] at h
        refine ru_iconst (1 : Int32) ddX11_sheetIs_126 rfl ?_
        refine ru_goto 131 ddX11_sheetIs_127 (by decide) ?_
        refine ru_wk (L2 := [some (rurf E 83), some (.int x1), some (.int x2), none, none, some (.int x5)]) ⟨rfl, rfl, rfl, rfl, trivial⟩ ?_
        obtain rfl := ruS1 h
        exact J
theorem wX11_sheetIs {E : ruE} (d : Nat) (hd : 5 ≤ d) (x1 : Int32) (x2 : Int32) (x3 : Int32) (A : ruA) {r : Int32} {B : ruA} (h : fX11_sheetIs x1 x2 x3 A = some (r, B)) : ruC E mmX11_sheetIs d [rurf E 83, .int x1, .int x2, .int x3] A (ruPr r B) := by
  refine ruC.of (L := [some (rurf E 83), some (.int x1), some (.int x2), some (.int x3), none, none]) (by decide) rfl (Nat.le_of_ble_eq_true rfl) rfl ?_
  unfold fX11_sheetIs at h
  refine ru_aload_n ddX11_sheetIs_0 rfl ?_
  refine ru_iload_n ddX11_sheetIs_1 rfl ?_
  refine ru_iconst (2 : Int32) ddX11_sheetIs_2 rfl ?_
  obtain ⟨v1, hv, h⟩ := ruB_inv h
  refine ru_callVi (as := [.int x1, .int (2 : Int32)]) (st := []) ddX11_sheetIs_3 cvX11_87 rfl (wX11_is 2 (Nat.le_refl _) x1 (2 : Int32) A hv) rfl (Nat.le_trans (m := 5) (by decide) hd) (Nat.le_of_ble_eq_true rfl) ?_
  clear hv
  refine ru_if_eq 26 ddX11_sheetIs_6 (by decide) (fun hc => ?_) (fun hc => ?_)
  · rw [if_pos hc] at h
    refine ru_aload_n ddX11_sheetIs_26 rfl ?_
    refine ru_ldc (v := (-1000001 : Int32)) ddX11_sheetIs_27 ckX11_65 ?_
    obtain ⟨v2, A3, hv, h⟩ := ruB2_inv h
    refine ru_callVi (as := [.int (-1000001 : Int32)]) (st := []) ddX11_sheetIs_29 cvX11_82 rfl (wX11_finding 1 (Nat.le_refl _) (-1000001 : Int32) A hv) rfl (Nat.le_trans (m := 5) (by decide) hd) (Nat.le_of_ble_eq_true rfl) ?_
    clear hv
    exact ru_iretW ddX11_sheetIs_32 rfl h
  · rw [if_neg hc] at h
    refine ru_iload_n ddX11_sheetIs_9 rfl ?_
    obtain ⟨v4, hv, h⟩ := ruB_inv h
    refine ru_callSi (as := [.int x2]) (st := []) ddX11_sheetIs_10 csX11_128 (wX11_isYear 2 (Nat.le_refl _) x2 A hv) rfl (Nat.le_trans (m := 5) (by decide) hd) (Nat.le_of_ble_eq_true rfl) ?_
    clear hv
    refine ru_if_eq 26 ddX11_sheetIs_13 (by decide) (fun hc => ?_) (fun hc => ?_)
    · rw [if_pos hc] at h
      refine ru_aload_n ddX11_sheetIs_26 rfl ?_
      refine ru_ldc (v := (-1000001 : Int32)) ddX11_sheetIs_27 ckX11_65 ?_
      obtain ⟨v5, A6, hv, h⟩ := ruB2_inv h
      refine ru_callVi (as := [.int (-1000001 : Int32)]) (st := []) ddX11_sheetIs_29 cvX11_82 rfl (wX11_finding 1 (Nat.le_refl _) (-1000001 : Int32) A hv) rfl (Nat.le_trans (m := 5) (by decide) hd) (Nat.le_of_ble_eq_true rfl) ?_
      clear hv
      exact ru_iretW ddX11_sheetIs_32 rfl h
    · rw [if_neg hc] at h
      refine ru_iload_n ddX11_sheetIs_16 rfl ?_
      refine ru_iconst (0 : Int32) ddX11_sheetIs_17 rfl ?_
      refine ru_bipush (6 : Int32) ddX11_sheetIs_18 rfl ?_
      obtain ⟨v7, hv, h⟩ := ruB_inv h
      refine ru_callSi (as := [.int x3, .int (0 : Int32), .int (6 : Int32)]) (st := []) ddX11_sheetIs_20 csX11_66 (wX11_within 1 (Nat.le_refl _) x3 (0 : Int32) (6 : Int32) A hv) rfl (Nat.le_trans (m := 5) (by decide) hd) (Nat.le_of_ble_eq_true rfl) ?_
      clear hv
      refine ru_if_ne 33 ddX11_sheetIs_23 (by decide) (fun hc => ?_) (fun hc => ?_)
      · rw [if_neg hc] at h
        refine ru_aload_n ddX11_sheetIs_33 rfl ?_
        refine ru_iload_n ddX11_sheetIs_34 rfl ?_
        refine ru_iload_n ddX11_sheetIs_35 rfl ?_
        obtain ⟨v8, hv, h⟩ := ruB_inv h
        refine ru_callVi (as := [.int x1, .int x2]) (st := []) ddX11_sheetIs_36 cvX11_98 rfl (wX11_hasSheet 2 (Nat.le_refl _) x1 x2 A hv) rfl (Nat.le_trans (m := 5) (by decide) hd) (Nat.le_of_ble_eq_true rfl) ?_
        clear hv
        refine ru_if_ne 49 ddX11_sheetIs_39 (by decide) (fun hc => ?_) (fun hc => ?_)
        · rw [if_neg hc] at h
          refine ru_iload_n ddX11_sheetIs_49 rfl ?_
          by_cases hc0 : x3 = (0 : Int32)
          · rw [if_pos hc0] at h
            refine ru_tabC 92 ddX11_sheetIs_50 hc0 ⟨by decide, by decide, _, rfl, by decide⟩ ?_
            refine ru_aload_n ddX11_sheetIs_92 rfl ?_
            refine ru_iload_n ddX11_sheetIs_93 rfl ?_
            refine ru_iload_n ddX11_sheetIs_94 rfl ?_
            obtain ⟨v9, hv, h⟩ := ruB_inv h
            refine ru_callVi (as := [.int x1, .int x2]) (st := []) ddX11_sheetIs_95 cvX11_112 rfl (wX11_rights 4 (Nat.le_refl _) x1 x2 A hv) rfl (Nat.le_trans (m := 5) (by decide) hd) (Nat.le_of_ble_eq_true rfl) ?_
            clear hv
            exact ru_iretW ddX11_sheetIs_98 rfl h
          · rw [if_neg hc0] at h
            by_cases hc1 : x3 = (1 : Int32)
            · rw [if_pos hc1] at h
              refine ru_tabC 99 ddX11_sheetIs_50 hc1 ⟨by decide, by decide, _, rfl, by decide⟩ ?_
              refine ru_iconst (0 : Int32) ddX11_sheetIs_99 rfl ?_
              refine ru_istore ddX11_sheetIs_100 (by decide) rfl rfl ?_
              refine ru_iconst (0 : Int32) ddX11_sheetIs_102 rfl ?_
              refine ru_istore ddX11_sheetIs_103 (by decide) rfl rfl ?_
              refine ru_wk (L2 := [some (rurf E 83), some (.int x1), some (.int x2), none, some (.int (0 : Int32)), some (.int (0 : Int32))]) ⟨rfl, rfl, rfl, rfl, rfl, trivial⟩ ?_
              exact wX11_sheetIs_l105 hd x1 x2 A (fun v12 h => by
                    refine ru_iload ddX11_sheetIs_140 rfl ?_
                    exact ru_iretW ddX11_sheetIs_142 rfl h) ruF (0 : Int32) (0 : Int32) h
            · rw [if_neg hc1] at h
              by_cases hc2 : x3 = (2 : Int32)
              · rw [if_pos hc2] at h
                refine ru_tabC 157 ddX11_sheetIs_50 hc2 ⟨by decide, by decide, _, rfl, by decide⟩ ?_
                refine ru_aload_n ddX11_sheetIs_157 rfl ?_
                refine ru_getR (r := 84) ddX11_sheetIs_158 flX11_9 rfl rfl ?_
                refine ru_iload_n ddX11_sheetIs_161 rfl ?_
                refine ru_iload_n ddX11_sheetIs_162 rfl ?_
                obtain ⟨v13, hv, h⟩ := ruB_inv h
                refine ru_callSi (as := [.int x1, .int x2]) (st := [rurf E 84]) ddX11_sheetIs_163 csX11_70 (wX11_sheetAt 1 (Nat.le_refl _) x1 x2 A hv) rfl (Nat.le_trans (m := 5) (by decide) hd) (Nat.le_of_ble_eq_true rfl) ?_
                clear hv
                refine ru_bipush (25 : Int32) ddX11_sheetIs_166 rfl ?_
                refine ru_iadd ddX11_sheetIs_168 ?_
                refine ru_iload_n ddX11_sheetIs_169 rfl ?_
                refine ru_iadd ddX11_sheetIs_170 ?_
                refine ru_iconst (2 : Int32) ddX11_sheetIs_171 rfl ?_
                refine ru_isub ddX11_sheetIs_172 ?_
                obtain ⟨v14, hv, h⟩ := ruB_inv h
                refine ru_iald ddX11_sheetIs_173 rfl hv ?_
                clear hv
                exact ru_iretW ddX11_sheetIs_174 rfl h
              · rw [if_neg hc2] at h
                by_cases hc3 : x3 = (3 : Int32)
                · rw [if_pos hc3] at h
                  refine ru_tabC 157 ddX11_sheetIs_50 hc3 ⟨by decide, by decide, _, rfl, by decide⟩ ?_
                  refine ru_aload_n ddX11_sheetIs_157 rfl ?_
                  refine ru_getR (r := 84) ddX11_sheetIs_158 flX11_9 rfl rfl ?_
                  refine ru_iload_n ddX11_sheetIs_161 rfl ?_
                  refine ru_iload_n ddX11_sheetIs_162 rfl ?_
                  obtain ⟨v15, hv, h⟩ := ruB_inv h
                  refine ru_callSi (as := [.int x1, .int x2]) (st := [rurf E 84]) ddX11_sheetIs_163 csX11_70 (wX11_sheetAt 1 (Nat.le_refl _) x1 x2 A hv) rfl (Nat.le_trans (m := 5) (by decide) hd) (Nat.le_of_ble_eq_true rfl) ?_
                  clear hv
                  refine ru_bipush (25 : Int32) ddX11_sheetIs_166 rfl ?_
                  refine ru_iadd ddX11_sheetIs_168 ?_
                  refine ru_iload_n ddX11_sheetIs_169 rfl ?_
                  refine ru_iadd ddX11_sheetIs_170 ?_
                  refine ru_iconst (2 : Int32) ddX11_sheetIs_171 rfl ?_
                  refine ru_isub ddX11_sheetIs_172 ?_
                  obtain ⟨v16, hv, h⟩ := ruB_inv h
                  refine ru_iald ddX11_sheetIs_173 rfl hv ?_
                  clear hv
                  exact ru_iretW ddX11_sheetIs_174 rfl h
                · rw [if_neg hc3] at h
                  by_cases hc4 : x3 = (4 : Int32)
                  · rw [if_pos hc4] at h
                    refine ru_tabC 157 ddX11_sheetIs_50 hc4 ⟨by decide, by decide, _, rfl, by decide⟩ ?_
                    refine ru_aload_n ddX11_sheetIs_157 rfl ?_
                    refine ru_getR (r := 84) ddX11_sheetIs_158 flX11_9 rfl rfl ?_
                    refine ru_iload_n ddX11_sheetIs_161 rfl ?_
                    refine ru_iload_n ddX11_sheetIs_162 rfl ?_
                    obtain ⟨v17, hv, h⟩ := ruB_inv h
                    refine ru_callSi (as := [.int x1, .int x2]) (st := [rurf E 84]) ddX11_sheetIs_163 csX11_70 (wX11_sheetAt 1 (Nat.le_refl _) x1 x2 A hv) rfl (Nat.le_trans (m := 5) (by decide) hd) (Nat.le_of_ble_eq_true rfl) ?_
                    clear hv
                    refine ru_bipush (25 : Int32) ddX11_sheetIs_166 rfl ?_
                    refine ru_iadd ddX11_sheetIs_168 ?_
                    refine ru_iload_n ddX11_sheetIs_169 rfl ?_
                    refine ru_iadd ddX11_sheetIs_170 ?_
                    refine ru_iconst (2 : Int32) ddX11_sheetIs_171 rfl ?_
                    refine ru_isub ddX11_sheetIs_172 ?_
                    obtain ⟨v18, hv, h⟩ := ruB_inv h
                    refine ru_iald ddX11_sheetIs_173 rfl hv ?_
                    clear hv
                    exact ru_iretW ddX11_sheetIs_174 rfl h
                  · rw [if_neg hc4] at h
                    by_cases hc5 : x3 = (5 : Int32)
                    · rw [if_pos hc5] at h
                      refine ru_tabC 143 ddX11_sheetIs_50 hc5 ⟨by decide, by decide, _, rfl, by decide⟩ ?_
                      refine ru_aload_n ddX11_sheetIs_143 rfl ?_
                      refine ru_iload_n ddX11_sheetIs_144 rfl ?_
                      refine ru_iload_n ddX11_sheetIs_145 rfl ?_
                      obtain ⟨v19, hv, h⟩ := ruB_inv h
                      refine ru_callVi (as := [.int x1, .int x2]) (st := []) ddX11_sheetIs_146 cvX11_137 rfl (wX11_unfit 4 (Nat.le_refl _) x1 x2 A hv) rfl (Nat.le_trans (m := 5) (by decide) hd) (Nat.le_of_ble_eq_true rfl) ?_
                      clear hv
                      exact ru_iretW ddX11_sheetIs_149 rfl h
                    · rw [if_neg hc5] at h
                      by_cases hc6 : x3 = (6 : Int32)
                      · rw [if_pos hc6] at h
                        refine ru_tabC 150 ddX11_sheetIs_50 hc6 ⟨by decide, by decide, _, rfl, by decide⟩ ?_
                        refine ru_aload_n ddX11_sheetIs_150 rfl ?_
                        refine ru_iload_n ddX11_sheetIs_151 rfl ?_
                        refine ru_iload_n ddX11_sheetIs_152 rfl ?_
                        obtain ⟨v20, hv, h⟩ := ruB_inv h
                        refine ru_callVi (as := [.int x1, .int x2]) (st := []) ddX11_sheetIs_153 cvX11_140 rfl (wX11_putsOn 3 (Nat.le_refl _) x1 x2 A hv) rfl (Nat.le_trans (m := 5) (by decide) hd) (Nat.le_of_ble_eq_true rfl) ?_
                        clear hv
                        exact ru_iretW ddX11_sheetIs_156 rfl h
                      · rw [if_neg hc6] at h
                        refine ru_tabD 157 ddX11_sheetIs_50 (fun j h9 => ?_) (by decide) ?_
                        · have h8 : j = 0 ∨ j = 1 ∨ j = 2 ∨ j = 3 ∨ j = 4 ∨ j = 5 ∨ j = 6 := by omega
                          rcases h8 with rfl | rfl | rfl | rfl | rfl | rfl | rfl
                          · exact fun e => hc0 (e.trans (by decide))
                          · exact fun e => hc1 (e.trans (by decide))
                          · exact fun e => hc2 (e.trans (by decide))
                          · exact fun e => hc3 (e.trans (by decide))
                          · exact fun e => hc4 (e.trans (by decide))
                          · exact fun e => hc5 (e.trans (by decide))
                          · exact fun e => hc6 (e.trans (by decide))
                        refine ru_aload_n ddX11_sheetIs_157 rfl ?_
                        refine ru_getR (r := 84) ddX11_sheetIs_158 flX11_9 rfl rfl ?_
                        refine ru_iload_n ddX11_sheetIs_161 rfl ?_
                        refine ru_iload_n ddX11_sheetIs_162 rfl ?_
                        obtain ⟨v21, hv, h⟩ := ruB_inv h
                        refine ru_callSi (as := [.int x1, .int x2]) (st := [rurf E 84]) ddX11_sheetIs_163 csX11_70 (wX11_sheetAt 1 (Nat.le_refl _) x1 x2 A hv) rfl (Nat.le_trans (m := 5) (by decide) hd) (Nat.le_of_ble_eq_true rfl) ?_
                        clear hv
                        refine ru_bipush (25 : Int32) ddX11_sheetIs_166 rfl ?_
                        refine ru_iadd ddX11_sheetIs_168 ?_
                        refine ru_iload_n ddX11_sheetIs_169 rfl ?_
                        refine ru_iadd ddX11_sheetIs_170 ?_
                        refine ru_iconst (2 : Int32) ddX11_sheetIs_171 rfl ?_
                        refine ru_isub ddX11_sheetIs_172 ?_
                        obtain ⟨v22, hv, h⟩ := ruB_inv h
                        refine ru_iald ddX11_sheetIs_173 rfl hv ?_
                        clear hv
                        exact ru_iretW ddX11_sheetIs_174 rfl h
        · rw [if_pos hc] at h
          refine ru_aload_n ddX11_sheetIs_42 rfl ?_
          refine ru_ldc (v := (-1000004 : Int32)) ddX11_sheetIs_43 ckX11_127 ?_
          obtain ⟨v23, A24, hv, h⟩ := ruB2_inv h
          refine ru_callVi (as := [.int (-1000004 : Int32)]) (st := []) ddX11_sheetIs_45 cvX11_82 rfl (wX11_finding 1 (Nat.le_refl _) (-1000004 : Int32) A hv) rfl (Nat.le_trans (m := 5) (by decide) hd) (Nat.le_of_ble_eq_true rfl) ?_
          clear hv
          exact ru_iretW ddX11_sheetIs_48 rfl h
      · rw [if_pos hc] at h
        refine ru_aload_n ddX11_sheetIs_26 rfl ?_
        refine ru_ldc (v := (-1000001 : Int32)) ddX11_sheetIs_27 ckX11_65 ?_
        obtain ⟨v25, A26, hv, h⟩ := ruB2_inv h
        refine ru_callVi (as := [.int (-1000001 : Int32)]) (st := []) ddX11_sheetIs_29 cvX11_82 rfl (wX11_finding 1 (Nat.le_refl _) (-1000001 : Int32) A hv) rfl (Nat.le_trans (m := 5) (by decide) hd) (Nat.le_of_ble_eq_true rfl) ?_
        clear hv
        exact ru_iretW ddX11_sheetIs_32 rfl h
