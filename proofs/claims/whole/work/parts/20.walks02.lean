theorem wX10_judges {E : ruE} (d : Nat) (hd : 193 ≤ d) (x1 : Int32) (x2 : Int32) (x3 : Int32) (A : ruA) {r : Int32} {B : ruA} (h : fX10_judges x1 x2 x3 A = some (r, B)) : ruC E mmX10_judges d [rurf E 0, .int x1, .int x2, .int x3] A (ruPr r B) := by
  refine ruC.of (L := [some (rurf E 0), some (.int x1), some (.int x2), some (.int x3), none, none]) (by decide) rfl (Nat.le_of_ble_eq_true rfl) rfl ?_
  unfold fX10_judges at h
  refine ru_aload_n ddX10_judges_0 rfl ?_
  refine ru_iload_n ddX10_judges_1 rfl ?_
  obtain ⟨v1, hv, h⟩ := ruB_inv h
  refine ru_callVi (as := [.int x1]) (st := []) ddX10_judges_2 cvX10_294 rfl (wX10_isWay 2 (Nat.le_refl _) x1 A hv) rfl (Nat.le_trans (m := 193) (by decide) hd) (Nat.le_of_ble_eq_true rfl) ?_
  clear hv
  refine ru_if_eq 24 ddX10_judges_5 (by decide) (fun hc => ?_) (fun hc => ?_)
  · rw [if_pos hc] at h
    refine ru_aload_n ddX10_judges_24 rfl ?_
    refine ru_ldc (v := (-1000001 : Int32)) ddX10_judges_25 ckX10_81 ?_
    obtain ⟨v2, A3, hv, h⟩ := ruB2_inv h
    refine ru_callVi (as := [.int (-1000001 : Int32)]) (st := []) ddX10_judges_27 cvX10_82 rfl (wX10_finding 2 (Nat.le_refl _) (-1000001 : Int32) A hv) rfl (Nat.le_trans (m := 193) (by decide) hd) (Nat.le_of_ble_eq_true rfl) ?_
    clear hv
    exact ru_iretW ddX10_judges_30 rfl h
  · rw [if_neg hc] at h
    refine ru_iload_n ddX10_judges_8 rfl ?_
    obtain ⟨v4, hv, h⟩ := ruB_inv h
    refine ru_callSi (as := [.int x2]) (st := []) ddX10_judges_9 csX10_203 (wX10_isYear 2 (Nat.le_refl _) x2 A hv) rfl (Nat.le_trans (m := 193) (by decide) hd) (Nat.le_of_ble_eq_true rfl) ?_
    clear hv
    refine ru_if_eq 24 ddX10_judges_12 (by decide) (fun hc => ?_) (fun hc => ?_)
    · rw [if_pos hc] at h
      refine ru_aload_n ddX10_judges_24 rfl ?_
      refine ru_ldc (v := (-1000001 : Int32)) ddX10_judges_25 ckX10_81 ?_
      obtain ⟨v5, A6, hv, h⟩ := ruB2_inv h
      refine ru_callVi (as := [.int (-1000001 : Int32)]) (st := []) ddX10_judges_27 cvX10_82 rfl (wX10_finding 2 (Nat.le_refl _) (-1000001 : Int32) A hv) rfl (Nat.le_trans (m := 193) (by decide) hd) (Nat.le_of_ble_eq_true rfl) ?_
      clear hv
      exact ru_iretW ddX10_judges_30 rfl h
    · rw [if_neg hc] at h
      refine ru_iload_n ddX10_judges_15 rfl ?_
      refine ru_iconst (0 : Int32) ddX10_judges_16 rfl ?_
      refine ru_iconst (2 : Int32) ddX10_judges_17 rfl ?_
      obtain ⟨v7, hv, h⟩ := ruB_inv h
      refine ru_callSi (as := [.int x3, .int (0 : Int32), .int (2 : Int32)]) (st := []) ddX10_judges_18 csX10_77 (wX10_isWithin 1 (Nat.le_refl _) x3 (0 : Int32) (2 : Int32) A hv) rfl (Nat.le_trans (m := 193) (by decide) hd) (Nat.le_of_ble_eq_true rfl) ?_
      clear hv
      refine ru_if_ne 31 ddX10_judges_21 (by decide) (fun hc => ?_) (fun hc => ?_)
      · rw [if_neg hc] at h
        refine ru_aload_n ddX10_judges_31 rfl ?_
        refine ru_iload_n ddX10_judges_32 rfl ?_
        refine ru_iload_n ddX10_judges_33 rfl ?_
        obtain ⟨v8, A9, hv, h⟩ := ruB2_inv h
        refine ru_callVi (as := [.int x1, .int x2]) (st := []) ddX10_judges_34 cvX10_300 rfl (wX10_flaggedBy 192 (Nat.le_refl _) x1 x2 A hv) rfl (Nat.le_trans (m := 193) (by decide) hd) (Nat.le_of_ble_eq_true rfl) ?_
        clear hv
        refine ru_istore ddX10_judges_37 (by decide) rfl rfl ?_
        refine ru_iload_n ddX10_judges_39 rfl ?_
        refine ru_if_ne 46 ddX10_judges_40 (by decide) (fun hc => ?_) (fun hc => ?_)
        · rw [if_neg hc] at h
          refine ru_aload_n ddX10_judges_46 rfl ?_
          refine ru_getR (r := 63) ddX10_judges_47 flX10_38 rfl rfl ?_
          refine ru_iload_n ddX10_judges_50 rfl ?_
          obtain ⟨v10, A11, hv, h⟩ := ruB2_inv h
          refine ru_callVi (as := [.int x2]) (st := []) ddX10_judges_51 cvX10_303 rfl (wX3_roomsWithPuts 6 (Nat.le_refl _) x2 A9 hv) rfl (Nat.le_trans (m := 193) (by decide) hd) (Nat.le_of_ble_eq_true rfl) ?_
          clear hv
          refine ru_istore ddX10_judges_54 (by decide) rfl rfl ?_
          refine ru_iload_n ddX10_judges_56 rfl ?_
          refine ru_iconst (1 : Int32) ddX10_judges_57 rfl ?_
          refine ru_icmp_ne 71 ddX10_judges_58 (by decide) (fun hc => ?_) (fun hc => ?_)
          · rw [if_neg hc] at h
            refine ru_iload ddX10_judges_71 rfl ?_
            refine ru_iload ddX10_judges_73 rfl ?_
            refine ru_iconst (-1 : Int32) ddX10_judges_75 rfl ?_
            refine ru_ixor ddX10_judges_76 ?_
            refine ru_iand ddX10_judges_77 ?_
            exact ru_iretW ddX10_judges_78 rfl h
          · rw [if_pos hc] at h
            refine ru_iload ddX10_judges_61 rfl ?_
            refine ru_iload ddX10_judges_63 rfl ?_
            refine ru_iconst (-1 : Int32) ddX10_judges_65 rfl ?_
            refine ru_ixor ddX10_judges_66 ?_
            refine ru_iand ddX10_judges_67 ?_
            refine ru_goto 78 ddX10_judges_68 (by decide) ?_
            exact ru_iretW ddX10_judges_78 rfl h
        · rw [if_pos hc] at h
          refine ru_iload ddX10_judges_43 rfl ?_
          exact ru_iretW ddX10_judges_45 rfl h
      · rw [if_pos hc] at h
        refine ru_aload_n ddX10_judges_24 rfl ?_
        refine ru_ldc (v := (-1000001 : Int32)) ddX10_judges_25 ckX10_81 ?_
        obtain ⟨v12, A13, hv, h⟩ := ruB2_inv h
        refine ru_callVi (as := [.int (-1000001 : Int32)]) (st := []) ddX10_judges_27 cvX10_82 rfl (wX10_finding 2 (Nat.le_refl _) (-1000001 : Int32) A hv) rfl (Nat.le_trans (m := 193) (by decide) hd) (Nat.le_of_ble_eq_true rfl) ?_
        clear hv
        exact ru_iretW ddX10_judges_30 rfl h
theorem wX3_isBetter {E : ruE} (d : Nat) (hd : 3 ≤ d) (x1 : Int32) (x2 : Int32) (x3 : Int32) (x4 : Int32) (A : ruA) {r : Int32} (h : fX3_isBetter x1 x2 x3 x4 A = some r) : ruC E mmX3_isBetter d [rurf E 63, .int x1, .int x2, .int x3, .int x4] A (ruPr r A) := by
  refine ruC.of (L := [some (rurf E 63), some (.int x1), some (.int x2), some (.int x3), some (.int x4), none, none, none, none, none, none]) (by decide) rfl (Nat.le_of_ble_eq_true rfl) rfl ?_
  unfold fX3_isBetter at h
  refine ru_aload_n ddX3_isBetter_0 rfl ?_
  refine ru_iload_n ddX3_isBetter_1 rfl ?_
  refine ru_iload_n ddX3_isBetter_2 rfl ?_
  obtain ⟨v1, hv, h⟩ := ruB_inv h
  refine ru_callVi (as := [.int x3, .int x1]) (st := []) ddX3_isBetter_3 cvX3_106 rfl (wX3_roomsFrom 2 (Nat.le_refl _) x3 x1 A hv) rfl (Nat.le_trans (m := 3) (by decide) hd) (Nat.le_of_ble_eq_true rfl) ?_
  clear hv
  refine ru_istore ddX3_isBetter_6 (by decide) rfl rfl ?_
  refine ru_aload_n ddX3_isBetter_8 rfl ?_
  refine ru_iload_n ddX3_isBetter_9 rfl ?_
  refine ru_iload_n ddX3_isBetter_10 rfl ?_
  obtain ⟨v2, hv, h⟩ := ruB_inv h
  refine ru_callVi (as := [.int x3, .int x2]) (st := []) ddX3_isBetter_11 cvX3_106 rfl (wX3_roomsFrom 2 (Nat.le_refl _) x3 x2 A hv) rfl (Nat.le_trans (m := 3) (by decide) hd) (Nat.le_of_ble_eq_true rfl) ?_
  clear hv
  refine ru_istore ddX3_isBetter_14 (by decide) rfl rfl ?_
  refine ru_iload ddX3_isBetter_16 rfl ?_
  refine ru_iload ddX3_isBetter_18 rfl ?_
  refine ru_iconst (-1 : Int32) ddX3_isBetter_20 rfl ?_
  refine ru_ixor ddX3_isBetter_21 ?_
  refine ru_iand ddX3_isBetter_22 ?_
  obtain ⟨v3, hv, h⟩ := ruB_inv h
  refine ru_callSi (as := [.int (v1 &&& (x4 ^^^ (-1 : Int32)))]) (st := []) ddX3_isBetter_23 csX3_109 (wJ6_bitCount_0f7a4 1 (Nat.le_refl _) (v1 &&& (x4 ^^^ (-1 : Int32))) A hv) rfl (Nat.le_trans (m := 3) (by decide) hd) (Nat.le_of_ble_eq_true rfl) ?_
  clear hv
  refine ru_istore ddX3_isBetter_26 (by decide) rfl rfl ?_
  refine ru_iload ddX3_isBetter_28 rfl ?_
  refine ru_iload ddX3_isBetter_30 rfl ?_
  refine ru_iconst (-1 : Int32) ddX3_isBetter_32 rfl ?_
  refine ru_ixor ddX3_isBetter_33 ?_
  refine ru_iand ddX3_isBetter_34 ?_
  obtain ⟨v4, hv, h⟩ := ruB_inv h
  refine ru_callSi (as := [.int (v2 &&& (x4 ^^^ (-1 : Int32)))]) (st := []) ddX3_isBetter_35 csX3_109 (wJ6_bitCount_0f7a4 1 (Nat.le_refl _) (v2 &&& (x4 ^^^ (-1 : Int32))) A hv) rfl (Nat.le_trans (m := 3) (by decide) hd) (Nat.le_of_ble_eq_true rfl) ?_
  clear hv
  refine ru_istore ddX3_isBetter_38 (by decide) rfl rfl ?_
  refine ru_iload ddX3_isBetter_40 rfl ?_
  refine ru_iload ddX3_isBetter_42 rfl ?_
  refine ru_iload ddX3_isBetter_44 rfl ?_
  refine ru_iconst (-1 : Int32) ddX3_isBetter_46 rfl ?_
  refine ru_ixor ddX3_isBetter_47 ?_
  refine ru_iand ddX3_isBetter_48 ?_
  obtain ⟨v5, hv, h⟩ := ruB_inv h
  refine ru_callSi (as := [.int (x4 &&& (v1 ^^^ (-1 : Int32)))]) (st := [.int v3]) ddX3_isBetter_49 csX3_109 (wJ6_bitCount_0f7a4 1 (Nat.le_refl _) (x4 &&& (v1 ^^^ (-1 : Int32))) A hv) rfl (Nat.le_trans (m := 3) (by decide) hd) (Nat.le_of_ble_eq_true rfl) ?_
  clear hv
  refine ru_iadd ddX3_isBetter_52 ?_
  refine ru_istore ddX3_isBetter_53 (by decide) rfl rfl ?_
  refine ru_iload ddX3_isBetter_55 rfl ?_
  refine ru_iload ddX3_isBetter_57 rfl ?_
  refine ru_iload ddX3_isBetter_59 rfl ?_
  refine ru_iconst (-1 : Int32) ddX3_isBetter_61 rfl ?_
  refine ru_ixor ddX3_isBetter_62 ?_
  refine ru_iand ddX3_isBetter_63 ?_
  obtain ⟨v6, hv, h⟩ := ruB_inv h
  refine ru_callSi (as := [.int (x4 &&& (v2 ^^^ (-1 : Int32)))]) (st := [.int v4]) ddX3_isBetter_64 csX3_109 (wJ6_bitCount_0f7a4 1 (Nat.le_refl _) (x4 &&& (v2 ^^^ (-1 : Int32))) A hv) rfl (Nat.le_trans (m := 3) (by decide) hd) (Nat.le_of_ble_eq_true rfl) ?_
  clear hv
  refine ru_iadd ddX3_isBetter_67 ?_
  refine ru_istore ddX3_isBetter_68 (by decide) rfl rfl ?_
  refine ru_iload ddX3_isBetter_70 rfl ?_
  refine ru_iload ddX3_isBetter_72 rfl ?_
  refine ru_icmp_eq 90 ddX3_isBetter_74 (by decide) (fun hc => ?_) (fun hc => ?_)
  · rw [if_pos hc] at h
    refine ru_iload ddX3_isBetter_90 rfl ?_
    refine ru_iload ddX3_isBetter_92 rfl ?_
    refine ru_icmp_eq 112 ddX3_isBetter_94 (by decide) (fun hc => ?_) (fun hc => ?_)
    · rw [if_pos hc] at h
      refine ru_iload_n ddX3_isBetter_112 rfl ?_
      refine ru_iload_n ddX3_isBetter_113 rfl ?_
      refine ru_icmp_ge 121 ddX3_isBetter_114 (by decide) (fun hc => ?_) (fun hc => ?_)
      · rw [if_pos hc] at h
        refine ru_iconst (0 : Int32) ddX3_isBetter_121 rfl ?_
        exact ru_zretP ddX3_isBetter_122 rfl (Or.inl rfl) h
      · rw [if_neg hc] at h
        refine ru_iconst (1 : Int32) ddX3_isBetter_117 rfl ?_
        refine ru_goto 122 ddX3_isBetter_118 (by decide) ?_
        exact ru_zretP ddX3_isBetter_122 rfl (Or.inr rfl) h
    · rw [if_neg hc] at h
      refine ru_iload ddX3_isBetter_97 rfl ?_
      refine ru_iload ddX3_isBetter_99 rfl ?_
      refine ru_icmp_ge 108 ddX3_isBetter_101 (by decide) (fun hc => ?_) (fun hc => ?_)
      · rw [if_pos hc] at h
        refine ru_iconst (0 : Int32) ddX3_isBetter_108 rfl ?_
        refine ru_goto 122 ddX3_isBetter_109 (by decide) ?_
        exact ru_zretP ddX3_isBetter_122 rfl (Or.inl rfl) h
      · rw [if_neg hc] at h
        refine ru_iconst (1 : Int32) ddX3_isBetter_104 rfl ?_
        refine ru_goto 122 ddX3_isBetter_105 (by decide) ?_
        exact ru_zretP ddX3_isBetter_122 rfl (Or.inr rfl) h
  · rw [if_neg hc] at h
    refine ru_iload ddX3_isBetter_77 rfl ?_
    refine ru_iload ddX3_isBetter_79 rfl ?_
    refine ru_icmp_ge 88 ddX3_isBetter_81 (by decide) (fun hc => ?_) (fun hc => ?_)
    · rw [if_pos hc] at h
      refine ru_iconst (0 : Int32) ddX3_isBetter_88 rfl ?_
      exact ru_zretP ddX3_isBetter_89 rfl (Or.inl rfl) h
    · rw [if_neg hc] at h
      refine ru_iconst (1 : Int32) ddX3_isBetter_84 rfl ?_
      refine ru_goto 89 ddX3_isBetter_85 (by decide) ?_
      exact ru_zretP ddX3_isBetter_89 rfl (Or.inr rfl) h
theorem wX3_bestLine_l5 {E : ruE} {d : Nat} (hd : 4 ≤ d) {β : Type} {Q : Option Value → ruA → Prop} {res : β} (x1 : Int32) (x2 : Int32) (A : ruA) {k73 : Int32 → Option (β)} (hk73 : ∀ (x3 : Int32), k73 x3 = some res → ruW E mmX3_bestLine d Q 73 [none, none, none, some (.int x3), none] [] A) : ∀ (n : Nat) (x3 : Int32) (x4 : Int32), fX3_bestLine_l5 x1 x2 A k73 n x3 x4 = some res → ruW E mmX3_bestLine d Q 5 [some (rurf E 63), some (.int x1), some (.int x2), some (.int x3), some (.int x4)] [] A := by
  intro n
  induction n with
  | zero =>
    intro x3 x4 h
    exact absurd h (by rw [fX3_bestLine_l5]; exact fun h => nomatch h)
  | succ n ih =>
    intro x3 x4 h
    rw [fX3_bestLine_l5] at h
    refine ru_iload ddX3_bestLine_5 rfl ?_
    refine ru_bipush (6 : Int32) ddX3_bestLine_7 rfl ?_
    refine ru_icmp_ge 73 ddX3_bestLine_9 (by decide) (fun hc => ?_) (fun hc => ?_)
    · rw [if_pos hc] at h
      refine ru_wk (L2 := [none, none, none, some (.int x3), none]) ⟨rfl, trivial⟩ ?_
      exact hk73 x3 h
    · rw [if_neg hc] at h
      refine ru_iload_n ddX3_bestLine_12 rfl ?_
      refine ru_iload ddX3_bestLine_13 rfl ?_
      obtain ⟨v1, hv, h⟩ := ruB_inv h
      refine ru_callNi (as := [.int x1, .int x4]) (st := []) ddX3_bestLine_15 cnX3_95 (wX10_has 1 (Nat.le_refl _) x1 x4 A hv) rfl (Nat.le_trans (m := 4) (by decide) hd) (Nat.le_of_ble_eq_true rfl) ?_
      clear hv
      obtain ⟨v2, hq, h⟩ := ruB_inv h
      have J : ruW E mmX3_bestLine d Q 67 [some (rurf E 63), some (.int x1), some (.int x2), some (.int v2), some (.int x4)] [] A := by
          refine ru_iinc (x4 + (1 : Int32)) ddX3_bestLine_67 (by decide) rfl rfl rfl rfl ?_
          refine ru_goto 5 ddX3_bestLine_70 (by decide) ?_
          exact ih v2 (x4 + (1 : Int32)) h
      replace h := hq
      clear hq
      refine ru_if_eq 67 ddX3_bestLine_18 (by decide) (fun hc => ?_) (fun hc => ?_)
      · rw [if_pos hc] at h
        refine ru_wk (L2 := [some (rurf E 63), some (.int x1), some (.int x2), some (.int x3), some (.int x4)]) ⟨rfl, rfl, rfl, rfl, rfl, trivial⟩ ?_
        obtain rfl := ruS1 h
        exact J
      · rw [if_neg hc] at h
        refine ru_aload_n ddX3_bestLine_21 rfl ?_
        refine ru_getR (r := 64) ddX3_bestLine_22 flX3_9 rfl rfl ?_
        refine ru_iload ddX3_bestLine_25 rfl ?_
        obtain ⟨v3, hv, h⟩ := ruB_inv h
        refine ru_iald ddX3_bestLine_27 rfl hv ?_
        clear hv
        refine ru_iconst (0 : Int32) ddX3_bestLine_28 rfl ?_
        refine ru_sipush (9998 : Int32) ddX3_bestLine_29 rfl ?_
        obtain ⟨v4, hv, h⟩ := ruB_inv h
        refine ru_callNi (as := [.int v3, .int (0 : Int32), .int (9998 : Int32)]) (st := []) ddX3_bestLine_32 cnX3_98 (wX10_isWithin 1 (Nat.le_refl _) v3 (0 : Int32) (9998 : Int32) A hv) rfl (Nat.le_trans (m := 4) (by decide) hd) (Nat.le_of_ble_eq_true rfl) ?_
        clear hv
        refine ru_if_eq 67 ddX3_bestLine_35 (by decide) (fun hc => ?_) (fun hc => ?_)
        · rw [if_pos hc] at h
          refine ru_wk (L2 := [some (rurf E 63), some (.int x1), some (.int x2), some (.int x3), some (.int x4)]) ⟨rfl, rfl, rfl, rfl, rfl, trivial⟩ ?_
          obtain rfl := ruS1 h
          exact J
        · rw [if_neg hc] at h
          refine ru_aload_n ddX3_bestLine_38 rfl ?_
          refine ru_aload_n ddX3_bestLine_39 rfl ?_
          refine ru_getR (r := 64) ddX3_bestLine_40 flX3_9 rfl rfl ?_
          refine ru_iload ddX3_bestLine_43 rfl ?_
          obtain ⟨v5, hv, h⟩ := ruB_inv h
          refine ru_iald ddX3_bestLine_45 rfl hv ?_
          clear hv
          refine ru_iconst (1 : Int32) ddX3_bestLine_46 rfl ?_
          refine ru_iadd ddX3_bestLine_47 ?_
          refine ru_iload_n ddX3_bestLine_48 rfl ?_
          refine ru_iload_n ddX3_bestLine_49 rfl ?_
          refine ru_iload_n ddX3_bestLine_50 rfl ?_
          obtain ⟨v6, hv, h⟩ := ruB_inv h
          refine ru_callVi (as := [.int (v5 + (1 : Int32)), .int x3, .int x1, .int x2]) (st := []) ddX3_bestLine_51 cvX3_102 rfl (wX3_isBetter 3 (Nat.le_refl _) (v5 + (1 : Int32)) x3 x1 x2 A hv) rfl (Nat.le_trans (m := 4) (by decide) hd) (Nat.le_of_ble_eq_true rfl) ?_
          clear hv
          refine ru_if_eq 67 ddX3_bestLine_54 (by decide) (fun hc => ?_) (fun hc => ?_)
          · rw [if_pos hc] at h
            refine ru_wk (L2 := [some (rurf E 63), some (.int x1), some (.int x2), some (.int x3), some (.int x4)]) ⟨rfl, rfl, rfl, rfl, rfl, trivial⟩ ?_
            obtain rfl := ruS1 h
            exact J
          · rw [if_neg hc] at h
            refine ru_aload_n ddX3_bestLine_57 rfl ?_
            refine ru_getR (r := 64) ddX3_bestLine_58 flX3_9 rfl rfl ?_
            refine ru_iload ddX3_bestLine_61 rfl ?_
            obtain ⟨v7, hv, h⟩ := ruB_inv h
            refine ru_iald ddX3_bestLine_63 rfl hv ?_
            clear hv
            refine ru_iconst (1 : Int32) ddX3_bestLine_64 rfl ?_
            refine ru_iadd ddX3_bestLine_65 ?_
            refine ru_istore_n ddX3_bestLine_66 (by decide) rfl rfl ?_
            refine ru_wk (L2 := [some (rurf E 63), some (.int x1), some (.int x2), some (.int (v7 + (1 : Int32))), some (.int x4)]) ⟨rfl, rfl, rfl, rfl, rfl, trivial⟩ ?_
            obtain rfl := ruS1 h
            exact J
theorem wX3_bestLine {E : ruE} (d : Nat) (hd : 4 ≤ d) (x1 : Int32) (x2 : Int32) (A : ruA) {r : Int32} (h : fX3_bestLine x1 x2 A = some r) : ruC E mmX3_bestLine d [rurf E 63, .int x1, .int x2] A (ruPr r A) := by
  refine ruC.of (L := [some (rurf E 63), some (.int x1), some (.int x2), none, none]) (by decide) rfl (Nat.le_of_ble_eq_true rfl) rfl ?_
  unfold fX3_bestLine at h
  refine ru_iconst (0 : Int32) ddX3_bestLine_0 rfl ?_
  refine ru_istore_n ddX3_bestLine_1 (by decide) rfl rfl ?_
  refine ru_iconst (0 : Int32) ddX3_bestLine_2 rfl ?_
  refine ru_istore ddX3_bestLine_3 (by decide) rfl rfl ?_
  exact wX3_bestLine_l5 hd x1 x2 A (fun v8 h => by
        refine ru_iload_n ddX3_bestLine_73 rfl ?_
        exact ru_iretP ddX3_bestLine_74 rfl h) ruF (0 : Int32) (0 : Int32) h
theorem wX10_line {E : ruE} (d : Nat) (hd : 7 ≤ d) (x1 : Int32) (x2 : Int32) (x3 : Int32) (A : ruA) {r : Int32} {B : ruA} (h : fX10_line x1 x2 x3 A = some (r, B)) : ruC E mmX10_line d [rurf E 0, .int x1, .int x2, .int x3] A (ruPr r B) := by
  refine ruC.of (L := [some (rurf E 0), some (.int x1), some (.int x2), some (.int x3), none, none, none, none]) (by decide) rfl (Nat.le_of_ble_eq_true rfl) rfl ?_
  unfold fX10_line at h
  refine ru_iload_n ddX10_line_0 rfl ?_
  refine ru_iconst (0 : Int32) ddX10_line_1 rfl ?_
  refine ru_iconst (5 : Int32) ddX10_line_2 rfl ?_
  obtain ⟨v1, hv, h⟩ := ruB_inv h
  refine ru_callSi (as := [.int x1, .int (0 : Int32), .int (5 : Int32)]) (st := []) ddX10_line_3 csX10_77 (wX10_isWithin 1 (Nat.le_refl _) x1 (0 : Int32) (5 : Int32) A hv) rfl (Nat.le_trans (m := 7) (by decide) hd) (Nat.le_of_ble_eq_true rfl) ?_
  clear hv
  refine ru_if_eq 25 ddX10_line_6 (by decide) (fun hc => ?_) (fun hc => ?_)
  · rw [if_pos hc] at h
    refine ru_aload_n ddX10_line_25 rfl ?_
    refine ru_ldc (v := (-1000001 : Int32)) ddX10_line_26 ckX10_81 ?_
    obtain ⟨v2, A3, hv, h⟩ := ruB2_inv h
    refine ru_callVi (as := [.int (-1000001 : Int32)]) (st := []) ddX10_line_28 cvX10_82 rfl (wX10_finding 2 (Nat.le_refl _) (-1000001 : Int32) A hv) rfl (Nat.le_trans (m := 7) (by decide) hd) (Nat.le_of_ble_eq_true rfl) ?_
    clear hv
    exact ru_iretW ddX10_line_31 rfl h
  · rw [if_neg hc] at h
    refine ru_iload_n ddX10_line_9 rfl ?_
    obtain ⟨v4, hv, h⟩ := ruB_inv h
    refine ru_callSi (as := [.int x2]) (st := []) ddX10_line_10 csX10_203 (wX10_isYear 2 (Nat.le_refl _) x2 A hv) rfl (Nat.le_trans (m := 7) (by decide) hd) (Nat.le_of_ble_eq_true rfl) ?_
    clear hv
    refine ru_if_eq 25 ddX10_line_13 (by decide) (fun hc => ?_) (fun hc => ?_)
    · rw [if_pos hc] at h
      refine ru_aload_n ddX10_line_25 rfl ?_
      refine ru_ldc (v := (-1000001 : Int32)) ddX10_line_26 ckX10_81 ?_
      obtain ⟨v5, A6, hv, h⟩ := ruB2_inv h
      refine ru_callVi (as := [.int (-1000001 : Int32)]) (st := []) ddX10_line_28 cvX10_82 rfl (wX10_finding 2 (Nat.le_refl _) (-1000001 : Int32) A hv) rfl (Nat.le_trans (m := 7) (by decide) hd) (Nat.le_of_ble_eq_true rfl) ?_
      clear hv
      exact ru_iretW ddX10_line_31 rfl h
    · rw [if_neg hc] at h
      refine ru_iload_n ddX10_line_16 rfl ?_
      refine ru_iconst (0 : Int32) ddX10_line_17 rfl ?_
      refine ru_iconst (2 : Int32) ddX10_line_18 rfl ?_
      obtain ⟨v7, hv, h⟩ := ruB_inv h
      refine ru_callSi (as := [.int x3, .int (0 : Int32), .int (2 : Int32)]) (st := []) ddX10_line_19 csX10_77 (wX10_isWithin 1 (Nat.le_refl _) x3 (0 : Int32) (2 : Int32) A hv) rfl (Nat.le_trans (m := 7) (by decide) hd) (Nat.le_of_ble_eq_true rfl) ?_
      clear hv
      refine ru_if_ne 32 ddX10_line_22 (by decide) (fun hc => ?_) (fun hc => ?_)
      · rw [if_neg hc] at h
        refine ru_aload_n ddX10_line_32 rfl ?_
        refine ru_getR (r := 63) ddX10_line_33 flX10_38 rfl rfl ?_
        refine ru_iload_n ddX10_line_36 rfl ?_
        obtain ⟨v8, hv, h⟩ := ruB_inv h
        refine ru_callVi (as := [.int x2]) (st := []) ddX10_line_37 cvX10_263 rfl (wX3_roomsWithSheets 3 (Nat.le_refl _) x2 A hv) rfl (Nat.le_trans (m := 7) (by decide) hd) (Nat.le_of_ble_eq_true rfl) ?_
        clear hv
        refine ru_istore ddX10_line_40 (by decide) rfl rfl ?_
        refine ru_iload ddX10_line_42 rfl ?_
        refine ru_if_ne 54 ddX10_line_44 (by decide) (fun hc => ?_) (fun hc => ?_)
        · rw [if_neg hc] at h
          refine ru_aload_n ddX10_line_54 rfl ?_
          refine ru_getR (r := 63) ddX10_line_55 flX10_38 rfl rfl ?_
          refine ru_iload_n ddX10_line_58 rfl ?_
          refine ru_iload_n ddX10_line_59 rfl ?_
          refine ru_iload ddX10_line_60 rfl ?_
          obtain ⟨A9, hv, h⟩ := ruB_inv h
          refine ru_callVv (as := [.int x1, .int x2, .int v8]) (st := []) ddX10_line_62 cvX10_271 rfl (wX3_workOut 6 (Nat.le_refl _) x1 x2 v8 A hv) rfl (Nat.le_trans (m := 7) (by decide) hd) (Nat.le_of_ble_eq_true rfl) ?_
          clear hv
          refine ru_aload_n ddX10_line_65 rfl ?_
          refine ru_getR (r := 63) ddX10_line_66 flX10_38 rfl rfl ?_
          refine ru_iload_n ddX10_line_69 rfl ?_
          obtain ⟨v10, A11, hv, h⟩ := ruB2_inv h
          refine ru_callVi (as := [.int x2]) (st := []) ddX10_line_70 cvX10_303 rfl (wX3_roomsWithPuts 6 (Nat.le_refl _) x2 A9 hv) rfl (Nat.le_trans (m := 7) (by decide) hd) (Nat.le_of_ble_eq_true rfl) ?_
          clear hv
          refine ru_istore ddX10_line_73 (by decide) rfl rfl ?_
          refine ru_aload_n ddX10_line_75 rfl ?_
          refine ru_getR (r := 63) ddX10_line_76 flX10_38 rfl rfl ?_
          refine ru_iload ddX10_line_79 rfl ?_
          refine ru_iload ddX10_line_81 rfl ?_
          obtain ⟨v12, hv, h⟩ := ruB_inv h
          refine ru_callVi (as := [.int v8, .int v10]) (st := []) ddX10_line_83 cvX10_306 rfl (wX3_bestLine 4 (Nat.le_refl _) v8 v10 A11 hv) rfl (Nat.le_trans (m := 7) (by decide) hd) (Nat.le_of_ble_eq_true rfl) ?_
          clear hv
          refine ru_istore ddX10_line_86 (by decide) rfl rfl ?_
          refine ru_iload_n ddX10_line_88 rfl ?_
          refine ru_if_ne 95 ddX10_line_89 (by decide) (fun hc => ?_) (fun hc => ?_)
          · rw [if_neg hc] at h
            refine ru_aload_n ddX10_line_95 rfl ?_
            refine ru_getR (r := 63) ddX10_line_96 flX10_38 rfl rfl ?_
            refine ru_iload ddX10_line_99 rfl ?_
            refine ru_iload ddX10_line_101 rfl ?_
            obtain ⟨v13, hv, h⟩ := ruB_inv h
            refine ru_callVi (as := [.int v8, .int v12]) (st := []) ddX10_line_103 cvX10_277 rfl (wX3_roomsFrom 2 (Nat.le_refl _) v8 v12 A11 hv) rfl (Nat.le_trans (m := 7) (by decide) hd) (Nat.le_of_ble_eq_true rfl) ?_
            clear hv
            refine ru_istore ddX10_line_106 (by decide) rfl rfl ?_
            refine ru_iload_n ddX10_line_108 rfl ?_
            refine ru_iconst (1 : Int32) ddX10_line_109 rfl ?_
            obtain ⟨v14, hq, h⟩ := ruB_inv h
            have J : ruW E mmX10_line d (ruPr r B) 130 [none, none, none, none, none, none, none, none] [.int v14] A11 := by
                obtain ⟨v15, hv, h⟩ := ruB_inv h
                refine ru_callSi (as := [.int v14]) (st := []) ddX10_line_130 csX10_266 (wJ6_bitCount_0f7a4 1 (Nat.le_refl _) v14 A11 hv) rfl (Nat.le_trans (m := 7) (by decide) hd) (Nat.le_of_ble_eq_true rfl) ?_
                clear hv
                exact ru_iretW ddX10_line_133 rfl h
            replace h := hq
            clear hq
            refine ru_icmp_ne 123 ddX10_line_110 (by decide) (fun hc => ?_) (fun hc => ?_)
            · rw [if_neg hc] at h
              refine ru_iload ddX10_line_123 rfl ?_
              refine ru_iload ddX10_line_125 rfl ?_
              refine ru_iconst (-1 : Int32) ddX10_line_127 rfl ?_
              refine ru_ixor ddX10_line_128 ?_
              refine ru_iand ddX10_line_129 ?_
              refine ru_wk (L2 := [none, none, none, none, none, none, none, none]) trivial ?_
              obtain rfl := ruS1 h
              exact J
            · rw [if_pos hc] at h
              refine ru_iload ddX10_line_113 rfl ?_
              refine ru_iload ddX10_line_115 rfl ?_
              refine ru_iconst (-1 : Int32) ddX10_line_117 rfl ?_
              refine ru_ixor ddX10_line_118 ?_
              refine ru_iand ddX10_line_119 ?_
              refine ru_goto 130 ddX10_line_120 (by decide) ?_
              refine ru_wk (L2 := [none, none, none, none, none, none, none, none]) trivial ?_
              obtain rfl := ruS1 h
              exact J
          · rw [if_pos hc] at h
            refine ru_iload ddX10_line_92 rfl ?_
            exact ru_iretW ddX10_line_94 rfl h
        · rw [if_pos hc] at h
          refine ru_aload_n ddX10_line_47 rfl ?_
          refine ru_ldc (v := (-1000004 : Int32)) ddX10_line_48 ckX10_202 ?_
          obtain ⟨v16, A17, hv, h⟩ := ruB2_inv h
          refine ru_callVi (as := [.int (-1000004 : Int32)]) (st := []) ddX10_line_50 cvX10_82 rfl (wX10_finding 2 (Nat.le_refl _) (-1000004 : Int32) A hv) rfl (Nat.le_trans (m := 7) (by decide) hd) (Nat.le_of_ble_eq_true rfl) ?_
          clear hv
          exact ru_iretW ddX10_line_53 rfl h
      · rw [if_pos hc] at h
        refine ru_aload_n ddX10_line_25 rfl ?_
        refine ru_ldc (v := (-1000001 : Int32)) ddX10_line_26 ckX10_81 ?_
        obtain ⟨v18, A19, hv, h⟩ := ruB2_inv h
        refine ru_callVi (as := [.int (-1000001 : Int32)]) (st := []) ddX10_line_28 cvX10_82 rfl (wX10_finding 2 (Nat.le_refl _) (-1000001 : Int32) A hv) rfl (Nat.le_trans (m := 7) (by decide) hd) (Nat.le_of_ble_eq_true rfl) ?_
        clear hv
        exact ru_iretW ddX10_line_31 rfl h
theorem wX10_areHours {E : ruE} (d : Nat) (hd : 1 ≤ d) (x0 : Int32) (x1 : Int32) (A : ruA) {r : Int32} (h : fX10_areHours x0 x1 = some r) : ruC E mmX10_areHours d [.int x0, .int x1] A (ruPr r A) := by
  refine ruC.of (L := [some (.int x0), some (.int x1)]) (by decide) rfl (Nat.le_of_ble_eq_true rfl) rfl ?_
  unfold fX10_areHours at h
  refine ru_iload_n ddX10_areHours_0 rfl ?_
  refine ru_if_lt 19 ddX10_areHours_1 (by decide) (fun hc => ?_) (fun hc => ?_)
  · rw [if_pos hc] at h
    refine ru_iconst (0 : Int32) ddX10_areHours_19 rfl ?_
    exact ru_zretP ddX10_areHours_20 rfl (Or.inl rfl) h
  · rw [if_neg hc] at h
    refine ru_iload_n ddX10_areHours_4 rfl ?_
    refine ru_iload_n ddX10_areHours_5 rfl ?_
    refine ru_icmp_le 19 ddX10_areHours_6 (by decide) (fun hc => ?_) (fun hc => ?_)
    · rw [if_pos hc] at h
      refine ru_iconst (0 : Int32) ddX10_areHours_19 rfl ?_
      exact ru_zretP ddX10_areHours_20 rfl (Or.inl rfl) h
    · rw [if_neg hc] at h
      refine ru_iload_n ddX10_areHours_9 rfl ?_
      refine ru_bipush (99 : Int32) ddX10_areHours_10 rfl ?_
      refine ru_icmp_gt 19 ddX10_areHours_12 (by decide) (fun hc => ?_) (fun hc => ?_)
      · rw [if_pos hc] at h
        refine ru_iconst (0 : Int32) ddX10_areHours_19 rfl ?_
        exact ru_zretP ddX10_areHours_20 rfl (Or.inl rfl) h
      · rw [if_neg hc] at h
        refine ru_iconst (1 : Int32) ddX10_areHours_15 rfl ?_
        refine ru_goto 20 ddX10_areHours_16 (by decide) ?_
        exact ru_zretP ddX10_areHours_20 rfl (Or.inr rfl) h
theorem wX2_given {E : ruE} (d : Nat) (hd : 1 ≤ d) (x1 : Int32) (x2 : Int32) (x3 : Int32) (x4 : Int32) (A : ruA) {r : Int32} {B : ruA} (h : fX2_given x1 x2 x3 x4 A = some (r, B)) : ruC E mmX2_given d [rurf E 23, .int x1, .int x2, .int x3, .int x4] A (ruPr r B) := by
  refine ruC.of (L := [some (rurf E 23), some (.int x1), some (.int x2), some (.int x3), some (.int x4)]) (by decide) rfl (Nat.le_of_ble_eq_true rfl) rfl ?_
  unfold fX2_given at h
  refine ru_aload_n ddX2_given_0 rfl ?_
  refine ru_getR (r := 24) ddX2_given_1 flX2_9 rfl rfl ?_
  refine ru_aload_n ddX2_given_4 rfl ?_
  refine ru_getI ddX2_given_5 flX2_27 rfl ?_
  refine ru_iload_n ddX2_given_8 rfl ?_
  obtain ⟨A1, hv, h⟩ := ruB_inv h
  refine ru_iast ddX2_given_9 rfl hv ?_
  clear hv
  refine ru_aload_n ddX2_given_10 rfl ?_
  refine ru_getR (r := 25) ddX2_given_11 flX2_15 rfl rfl ?_
  refine ru_aload_n ddX2_given_14 rfl ?_
  refine ru_getI ddX2_given_15 flX2_27 rfl ?_
  refine ru_iload_n ddX2_given_18 rfl ?_
  obtain ⟨A2, hv, h⟩ := ruB_inv h
  refine ru_iast ddX2_given_19 rfl hv ?_
  clear hv
  refine ru_aload_n ddX2_given_20 rfl ?_
  refine ru_getR (r := 26) ddX2_given_21 flX2_18 rfl rfl ?_
  refine ru_aload_n ddX2_given_24 rfl ?_
  refine ru_getI ddX2_given_25 flX2_27 rfl ?_
  refine ru_iload_n ddX2_given_28 rfl ?_
  obtain ⟨A3, hv, h⟩ := ruB_inv h
  refine ru_iast ddX2_given_29 rfl hv ?_
  clear hv
  refine ru_aload_n ddX2_given_30 rfl ?_
  refine ru_getR (r := 27) ddX2_given_31 flX2_21 rfl rfl ?_
  refine ru_aload_n ddX2_given_34 rfl ?_
  refine ru_getI ddX2_given_35 flX2_27 rfl ?_
  refine ru_iload ddX2_given_38 rfl ?_
  obtain ⟨A4, hv, h⟩ := ruB_inv h
  refine ru_iast ddX2_given_40 rfl hv ?_
  clear hv
  refine ru_aload_n ddX2_given_41 rfl ?_
  refine ru_dup ddX2_given_42 rfl ?_
  refine ru_getI ddX2_given_43 flX2_27 rfl ?_
  refine ru_iconst (1 : Int32) ddX2_given_46 rfl ?_
  refine ru_iadd ddX2_given_47 ?_
  obtain ⟨A5, hv, h⟩ := ruB_inv h
  refine ru_putI2 ddX2_given_48 flX2_27 fp2_0 rfl hv ?_
  clear hv
  refine ru_aload_n ddX2_given_51 rfl ?_
  refine ru_getI ddX2_given_52 flX2_27 rfl ?_
  exact ru_iretW ddX2_given_55 rfl h
theorem wX10_holds {E : ruE} (d : Nat) (hd : 3 ≤ d) (x1 : Int32) (x2 : Int32) (x3 : Int32) (x4 : Int32) (A : ruA) {r : Int32} {B : ruA} (h : fX10_holds x1 x2 x3 x4 A = some (r, B)) : ruC E mmX10_holds d [rurf E 0, .int x1, .int x2, .int x3, .int x4] A (ruPr r B) := by
  refine ruC.of (L := [some (rurf E 0), some (.int x1), some (.int x2), some (.int x3), some (.int x4)]) (by decide) rfl (Nat.le_of_ble_eq_true rfl) rfl ?_
  unfold fX10_holds at h
  refine ru_iload_n ddX10_holds_0 rfl ?_
  refine ru_iconst (0 : Int32) ddX10_holds_1 rfl ?_
  refine ru_bipush (9 : Int32) ddX10_holds_2 rfl ?_
  obtain ⟨v1, hv, h⟩ := ruB_inv h
  refine ru_callSi (as := [.int x1, .int (0 : Int32), .int (9 : Int32)]) (st := []) ddX10_holds_4 csX10_77 (wX10_isWithin 1 (Nat.le_refl _) x1 (0 : Int32) (9 : Int32) A hv) rfl (Nat.le_trans (m := 3) (by decide) hd) (Nat.le_of_ble_eq_true rfl) ?_
  clear hv
  refine ru_if_eq 27 ddX10_holds_7 (by decide) (fun hc => ?_) (fun hc => ?_)
  · rw [if_pos hc] at h
    refine ru_aload_n ddX10_holds_27 rfl ?_
    refine ru_ldc (v := (-1000001 : Int32)) ddX10_holds_28 ckX10_81 ?_
    obtain ⟨v2, A3, hv, h⟩ := ruB2_inv h
    refine ru_callVi (as := [.int (-1000001 : Int32)]) (st := []) ddX10_holds_30 cvX10_82 rfl (wX10_finding 2 (Nat.le_refl _) (-1000001 : Int32) A hv) rfl (Nat.le_trans (m := 3) (by decide) hd) (Nat.le_of_ble_eq_true rfl) ?_
    clear hv
    exact ru_iretW ddX10_holds_33 rfl h
  · rw [if_neg hc] at h
    refine ru_aload_n ddX10_holds_10 rfl ?_
    refine ru_iload_n ddX10_holds_11 rfl ?_
    obtain ⟨v4, hv, h⟩ := ruB_inv h
    refine ru_callVi (as := [.int x2]) (st := []) ddX10_holds_12 cvX10_98 rfl (wX10_isRoom 2 (Nat.le_refl _) x2 A hv) rfl (Nat.le_trans (m := 3) (by decide) hd) (Nat.le_of_ble_eq_true rfl) ?_
    clear hv
    refine ru_if_eq 27 ddX10_holds_15 (by decide) (fun hc => ?_) (fun hc => ?_)
    · rw [if_pos hc] at h
      refine ru_aload_n ddX10_holds_27 rfl ?_
      refine ru_ldc (v := (-1000001 : Int32)) ddX10_holds_28 ckX10_81 ?_
      obtain ⟨v5, A6, hv, h⟩ := ruB2_inv h
      refine ru_callVi (as := [.int (-1000001 : Int32)]) (st := []) ddX10_holds_30 cvX10_82 rfl (wX10_finding 2 (Nat.le_refl _) (-1000001 : Int32) A hv) rfl (Nat.le_trans (m := 3) (by decide) hd) (Nat.le_of_ble_eq_true rfl) ?_
      clear hv
      exact ru_iretW ddX10_holds_33 rfl h
    · rw [if_neg hc] at h
      refine ru_iload_n ddX10_holds_18 rfl ?_
      refine ru_iload ddX10_holds_19 rfl ?_
      obtain ⟨v7, hv, h⟩ := ruB_inv h
      refine ru_callSi (as := [.int x3, .int x4]) (st := []) ddX10_holds_21 csX10_309 (wX10_areHours 1 (Nat.le_refl _) x3 x4 A hv) rfl (Nat.le_trans (m := 3) (by decide) hd) (Nat.le_of_ble_eq_true rfl) ?_
      clear hv
      refine ru_if_ne 34 ddX10_holds_24 (by decide) (fun hc => ?_) (fun hc => ?_)
      · rw [if_neg hc] at h
        refine ru_aload_n ddX10_holds_34 rfl ?_
        refine ru_getR (r := 1) ddX10_holds_35 flX10_12 rfl rfl ?_
        refine ru_getR (r := 23) ddX10_holds_38 flX10_312 rfl rfl ?_
        refine ru_getI ddX10_holds_41 flX10_315 rfl ?_
        refine ru_bipush (30 : Int32) ddX10_holds_44 rfl ?_
        refine ru_icmp_lt 56 ddX10_holds_46 (by decide) (fun hc => ?_) (fun hc => ?_)
        · rw [if_pos hc] at h
          refine ru_aload_n ddX10_holds_56 rfl ?_
          refine ru_getR (r := 1) ddX10_holds_57 flX10_12 rfl rfl ?_
          refine ru_getR (r := 23) ddX10_holds_60 flX10_312 rfl rfl ?_
          refine ru_iload_n ddX10_holds_63 rfl ?_
          refine ru_iload_n ddX10_holds_64 rfl ?_
          refine ru_iload_n ddX10_holds_65 rfl ?_
          refine ru_iload ddX10_holds_66 rfl ?_
          obtain ⟨v8, A9, hv, h⟩ := ruB2_inv h
          refine ru_callVi (as := [.int x1, .int x2, .int x3, .int x4]) (st := []) ddX10_holds_68 cvX10_318 rfl (wX2_given 1 (Nat.le_refl _) x1 x2 x3 x4 A hv) rfl (Nat.le_trans (m := 3) (by decide) hd) (Nat.le_of_ble_eq_true rfl) ?_
          clear hv
          exact ru_iretW ddX10_holds_71 rfl h
        · rw [if_neg hc] at h
          refine ru_aload_n ddX10_holds_49 rfl ?_
          refine ru_ldc (v := (-1000002 : Int32)) ddX10_holds_50 ckX10_97 ?_
          obtain ⟨v10, A11, hv, h⟩ := ruB2_inv h
          refine ru_callVi (as := [.int (-1000002 : Int32)]) (st := []) ddX10_holds_52 cvX10_82 rfl (wX10_finding 2 (Nat.le_refl _) (-1000002 : Int32) A hv) rfl (Nat.le_trans (m := 3) (by decide) hd) (Nat.le_of_ble_eq_true rfl) ?_
          clear hv
          exact ru_iretW ddX10_holds_55 rfl h
      · rw [if_pos hc] at h
        refine ru_aload_n ddX10_holds_27 rfl ?_
        refine ru_ldc (v := (-1000001 : Int32)) ddX10_holds_28 ckX10_81 ?_
        obtain ⟨v12, A13, hv, h⟩ := ruB2_inv h
        refine ru_callVi (as := [.int (-1000001 : Int32)]) (st := []) ddX10_holds_30 cvX10_82 rfl (wX10_finding 2 (Nat.le_refl _) (-1000001 : Int32) A hv) rfl (Nat.le_trans (m := 3) (by decide) hd) (Nat.le_of_ble_eq_true rfl) ?_
        clear hv
        exact ru_iretW ddX10_holds_33 rfl h
theorem wX2_holdersAt_l5 {E : ruE} {d : Nat} (hd : 1 ≤ d) {β : Type} {Q : Option Value → ruA → Prop} {res : β} (x1 : Int32) (x2 : Int32) (A : ruA) {k65 : Int32 → Option (β)} (hk65 : ∀ (x3 : Int32), k65 x3 = some res → ruW E mmX2_holdersAt d Q 65 [none, none, none, some (.int x3), none] [] A) : ∀ (n : Nat) (x3 : Int32) (x4 : Int32), fX2_holdersAt_l5 x1 x2 A k65 n x3 x4 = some res → ruW E mmX2_holdersAt d Q 5 [some (rurf E 23), some (.int x1), some (.int x2), some (.int x3), some (.int x4)] [] A := by
  intro n
  induction n with
  | zero =>
    intro x3 x4 h
    exact absurd h (by rw [fX2_holdersAt_l5]; exact fun h => nomatch h)
  | succ n ih =>
    intro x3 x4 h
    rw [fX2_holdersAt_l5] at h
    refine ru_iload ddX2_holdersAt_5 rfl ?_
    refine ru_aload_n ddX2_holdersAt_7 rfl ?_
    refine ru_getI ddX2_holdersAt_8 flX2_27 rfl ?_
    refine ru_icmp_ge 65 ddX2_holdersAt_11 (by decide) (fun hc => ?_) (fun hc => ?_)
    · rw [if_pos hc] at h
      refine ru_wk (L2 := [none, none, none, some (.int x3), none]) ⟨rfl, trivial⟩ ?_
      exact hk65 x3 h
    · rw [if_neg hc] at h
      refine ru_aload_n ddX2_holdersAt_14 rfl ?_
      refine ru_getR (r := 25) ddX2_holdersAt_15 flX2_15 rfl rfl ?_
      refine ru_iload ddX2_holdersAt_18 rfl ?_
      obtain ⟨v1, hv, h⟩ := ruB_inv h
      refine ru_iald ddX2_holdersAt_20 rfl hv ?_
      clear hv
      refine ru_iload_n ddX2_holdersAt_21 rfl ?_
      obtain ⟨v2, hq, h⟩ := ruB_inv h
      have J : ruW E mmX2_holdersAt d Q 59 [some (rurf E 23), some (.int x1), some (.int x2), some (.int v2), some (.int x4)] [] A := by
          refine ru_iinc (x4 + (1 : Int32)) ddX2_holdersAt_59 (by decide) rfl rfl rfl rfl ?_
          refine ru_goto 5 ddX2_holdersAt_62 (by decide) ?_
          exact ih v2 (x4 + (1 : Int32)) h
      replace h := hq
      clear hq
      refine ru_icmp_ne 59 ddX2_holdersAt_22 (by decide) (fun hc => ?_) (fun hc => ?_)
      · rw [if_neg hc] at h
        refine ru_wk (L2 := [some (rurf E 23), some (.int x1), some (.int x2), some (.int x3), some (.int x4)]) ⟨rfl, rfl, rfl, rfl, rfl, trivial⟩ ?_
        obtain rfl := ruS1 h
        exact J
      · rw [if_pos hc] at h
        refine ru_aload_n ddX2_holdersAt_25 rfl ?_
        refine ru_getR (r := 26) ddX2_holdersAt_26 flX2_18 rfl rfl ?_
        refine ru_iload ddX2_holdersAt_29 rfl ?_
        obtain ⟨v3, hv, h⟩ := ruB_inv h
        refine ru_iald ddX2_holdersAt_31 rfl hv ?_
        clear hv
        refine ru_iload_n ddX2_holdersAt_32 rfl ?_
        refine ru_icmp_gt 59 ddX2_holdersAt_33 (by decide) (fun hc => ?_) (fun hc => ?_)
        · rw [if_pos hc] at h
          refine ru_wk (L2 := [some (rurf E 23), some (.int x1), some (.int x2), some (.int x3), some (.int x4)]) ⟨rfl, rfl, rfl, rfl, rfl, trivial⟩ ?_
          obtain rfl := ruS1 h
          exact J
        · rw [if_neg hc] at h
          refine ru_iload_n ddX2_holdersAt_36 rfl ?_
          refine ru_aload_n ddX2_holdersAt_37 rfl ?_
          refine ru_getR (r := 27) ddX2_holdersAt_38 flX2_21 rfl rfl ?_
          refine ru_iload ddX2_holdersAt_41 rfl ?_
          obtain ⟨v4, hv, h⟩ := ruB_inv h
          refine ru_iald ddX2_holdersAt_43 rfl hv ?_
          clear hv
          refine ru_icmp_ge 59 ddX2_holdersAt_44 (by decide) (fun hc => ?_) (fun hc => ?_)
          · rw [if_pos hc] at h
            refine ru_wk (L2 := [some (rurf E 23), some (.int x1), some (.int x2), some (.int x3), some (.int x4)]) ⟨rfl, rfl, rfl, rfl, rfl, trivial⟩ ?_
            obtain rfl := ruS1 h
            exact J
          · rw [if_neg hc] at h
            refine ru_iload_n ddX2_holdersAt_47 rfl ?_
            refine ru_iconst (1 : Int32) ddX2_holdersAt_48 rfl ?_
            refine ru_aload_n ddX2_holdersAt_49 rfl ?_
            refine ru_getR (r := 24) ddX2_holdersAt_50 flX2_9 rfl rfl ?_
            refine ru_iload ddX2_holdersAt_53 rfl ?_
            obtain ⟨v5, hv, h⟩ := ruB_inv h
            refine ru_iald ddX2_holdersAt_55 rfl hv ?_
            clear hv
            refine ru_ishl ddX2_holdersAt_56 ?_
            refine ru_ior ddX2_holdersAt_57 ?_
            refine ru_istore_n ddX2_holdersAt_58 (by decide) rfl rfl ?_
            refine ru_wk (L2 := [some (rurf E 23), some (.int x1), some (.int x2), some (.int (x3 ||| ((1 : Int32) <<< (v5 &&& 31)))), some (.int x4)]) ⟨rfl, rfl, rfl, rfl, rfl, trivial⟩ ?_
            obtain rfl := ruS1 h
            exact J
theorem wX2_holdersAt {E : ruE} (d : Nat) (hd : 1 ≤ d) (x1 : Int32) (x2 : Int32) (A : ruA) {r : Int32} (h : fX2_holdersAt x1 x2 A = some r) : ruC E mmX2_holdersAt d [rurf E 23, .int x1, .int x2] A (ruPr r A) := by
  refine ruC.of (L := [some (rurf E 23), some (.int x1), some (.int x2), none, none]) (by decide) rfl (Nat.le_of_ble_eq_true rfl) rfl ?_
  unfold fX2_holdersAt at h
  refine ru_iconst (0 : Int32) ddX2_holdersAt_0 rfl ?_
  refine ru_istore_n ddX2_holdersAt_1 (by decide) rfl rfl ?_
  refine ru_iconst (0 : Int32) ddX2_holdersAt_2 rfl ?_
  refine ru_istore ddX2_holdersAt_3 (by decide) rfl rfl ?_
  exact wX2_holdersAt_l5 hd x1 x2 A (fun v6 h => by
        refine ru_iload_n ddX2_holdersAt_65 rfl ?_
        exact ru_iretP ddX2_holdersAt_66 rfl h) ruF (0 : Int32) (0 : Int32) h
theorem wX2_firstGap_l3 {E : ruE} {d : Nat} (hd : 2 ≤ d) {β : Type} {Q : Option Value → ruA → Prop} {res : β} (x1 : Int32) (x3 : Int32) (A : ruA) {k19 : Int32 → Option (β)} {k28 : Option (β)} (hk19 : ∀ (x4 : Int32), k19 x4 = some res → ruW E mmX2_firstGap d Q 19 [none, none, none, none, some (.int x4)] [] A) (hk28 : k28 = some res → ruW E mmX2_firstGap d Q 28 [none, none, none, none, none] [] A) : ∀ (n : Nat) (x4 : Int32), fX2_firstGap_l3 x1 x3 A k19 k28 n x4 = some res → ruW E mmX2_firstGap d Q 3 [some (rurf E 23), some (.int x1), none, some (.int x3), some (.int x4)] [] A := by
  intro n
  induction n with
  | zero =>
    intro x4 h
    exact absurd h (by rw [fX2_firstGap_l3]; exact fun h => nomatch h)
  | succ n ih =>
    intro x4 h
    rw [fX2_firstGap_l3] at h
    refine ru_iload ddX2_firstGap_3 rfl ?_
    refine ru_iload_n ddX2_firstGap_5 rfl ?_
    refine ru_icmp_ge 28 ddX2_firstGap_6 (by decide) (fun hc => ?_) (fun hc => ?_)
    · rw [if_pos hc] at h
      refine ru_wk (L2 := [none, none, none, none, none]) trivial ?_
      exact hk28 h
    · rw [if_neg hc] at h
      refine ru_aload_n ddX2_firstGap_9 rfl ?_
      refine ru_iload_n ddX2_firstGap_10 rfl ?_
      refine ru_iload ddX2_firstGap_11 rfl ?_
      obtain ⟨v1, hv, h⟩ := ruB_inv h
      refine ru_callVi (as := [.int x1, .int x4]) (st := []) ddX2_firstGap_13 cvX2_37 rfl (wX2_holdersAt 1 (Nat.le_refl _) x1 x4 A hv) rfl (Nat.le_trans (m := 2) (by decide) hd) (Nat.le_of_ble_eq_true rfl) ?_
      clear hv
      refine ru_if_ne 22 ddX2_firstGap_16 (by decide) (fun hc => ?_) (fun hc => ?_)
      · rw [if_neg hc] at h
        refine ru_iinc (x4 + (1 : Int32)) ddX2_firstGap_22 (by decide) rfl rfl rfl rfl ?_
        refine ru_goto 3 ddX2_firstGap_25 (by decide) ?_
        exact ih (x4 + (1 : Int32)) h
      · rw [if_pos hc] at h
        refine ru_wk (L2 := [none, none, none, none, some (.int x4)]) ⟨rfl, trivial⟩ ?_
        exact hk19 x4 h
theorem wX2_firstGap {E : ruE} (d : Nat) (hd : 2 ≤ d) (x1 : Int32) (x2 : Int32) (x3 : Int32) (A : ruA) {r : Int32} (h : fX2_firstGap x1 x2 x3 A = some r) : ruC E mmX2_firstGap d [rurf E 23, .int x1, .int x2, .int x3] A (ruPr r A) := by
  refine ruC.of (L := [some (rurf E 23), some (.int x1), some (.int x2), some (.int x3), none]) (by decide) rfl (Nat.le_of_ble_eq_true rfl) rfl ?_
  unfold fX2_firstGap at h
  refine ru_iload_n ddX2_firstGap_0 rfl ?_
  refine ru_istore ddX2_firstGap_1 (by decide) rfl rfl ?_
  refine ru_wk (L2 := [some (rurf E 23), some (.int x1), none, some (.int x3), some (.int x2)]) ⟨rfl, rfl, rfl, rfl, trivial⟩ ?_
  exact wX2_firstGap_l3 hd x1 x3 A (fun v2 h => by
        refine ru_iload ddX2_firstGap_19 rfl ?_
        exact ru_iretP ddX2_firstGap_21 rfl h) (fun h => by
        refine ru_iconst (-1 : Int32) ddX2_firstGap_28 rfl ?_
        exact ru_iretP ddX2_firstGap_29 rfl h) ruF x2 h
theorem wX2_gapCount_l6 {E : ruE} {d : Nat} (hd : 2 ≤ d) {β : Type} {Q : Option Value → ruA → Prop} {res : β} (x1 : Int32) (x3 : Int32) (A : ruA) {k31 : Int32 → Option (β)} (hk31 : ∀ (x4 : Int32), k31 x4 = some res → ruW E mmX2_gapCount d Q 31 [none, none, none, none, some (.int x4), none] [] A) : ∀ (n : Nat) (x4 : Int32) (x5 : Int32), fX2_gapCount_l6 x1 x3 A k31 n x4 x5 = some res → ruW E mmX2_gapCount d Q 6 [some (rurf E 23), some (.int x1), none, some (.int x3), some (.int x4), some (.int x5)] [] A := by
  intro n
  induction n with
  | zero =>
    intro x4 x5 h
    exact absurd h (by rw [fX2_gapCount_l6]; exact fun h => nomatch h)
  | succ n ih =>
    intro x4 x5 h
    rw [fX2_gapCount_l6] at h
    refine ru_iload ddX2_gapCount_6 rfl ?_
    refine ru_iload_n ddX2_gapCount_8 rfl ?_
    refine ru_icmp_ge 31 ddX2_gapCount_9 (by decide) (fun hc => ?_) (fun hc => ?_)
    · rw [if_pos hc] at h
      refine ru_wk (L2 := [none, none, none, none, some (.int x4), none]) ⟨rfl, trivial⟩ ?_
      exact hk31 x4 h
    · rw [if_neg hc] at h
      refine ru_aload_n ddX2_gapCount_12 rfl ?_
      refine ru_iload_n ddX2_gapCount_13 rfl ?_
      refine ru_iload ddX2_gapCount_14 rfl ?_
      obtain ⟨v1, hv, h⟩ := ruB_inv h
      refine ru_callVi (as := [.int x1, .int x5]) (st := []) ddX2_gapCount_16 cvX2_37 rfl (wX2_holdersAt 1 (Nat.le_refl _) x1 x5 A hv) rfl (Nat.le_trans (m := 2) (by decide) hd) (Nat.le_of_ble_eq_true rfl) ?_
      clear hv
      obtain ⟨v2, hq, h⟩ := ruB_inv h
      have J : ruW E mmX2_gapCount d Q 25 [some (rurf E 23), some (.int x1), none, some (.int x3), some (.int v2), some (.int x5)] [] A := by
          refine ru_iinc (x5 + (1 : Int32)) ddX2_gapCount_25 (by decide) rfl rfl rfl rfl ?_
          refine ru_goto 6 ddX2_gapCount_28 (by decide) ?_
          exact ih v2 (x5 + (1 : Int32)) h
      replace h := hq
      clear hq
      refine ru_if_ne 25 ddX2_gapCount_19 (by decide) (fun hc => ?_) (fun hc => ?_)
      · rw [if_neg hc] at h
        refine ru_wk (L2 := [some (rurf E 23), some (.int x1), none, some (.int x3), some (.int x4), some (.int x5)]) ⟨rfl, rfl, rfl, rfl, rfl, trivial⟩ ?_
        obtain rfl := ruS1 h
        exact J
      · rw [if_pos hc] at h
        refine ru_iinc (x4 + (1 : Int32)) ddX2_gapCount_22 (by decide) rfl rfl rfl rfl ?_
        refine ru_wk (L2 := [some (rurf E 23), some (.int x1), none, some (.int x3), some (.int (x4 + (1 : Int32))), some (.int x5)]) ⟨rfl, rfl, rfl, rfl, rfl, trivial⟩ ?_
        obtain rfl := ruS1 h
        exact J
theorem wX2_gapCount {E : ruE} (d : Nat) (hd : 2 ≤ d) (x1 : Int32) (x2 : Int32) (x3 : Int32) (A : ruA) {r : Int32} (h : fX2_gapCount x1 x2 x3 A = some r) : ruC E mmX2_gapCount d [rurf E 23, .int x1, .int x2, .int x3] A (ruPr r A) := by
  refine ruC.of (L := [some (rurf E 23), some (.int x1), some (.int x2), some (.int x3), none, none]) (by decide) rfl (Nat.le_of_ble_eq_true rfl) rfl ?_
  unfold fX2_gapCount at h
  refine ru_iconst (0 : Int32) ddX2_gapCount_0 rfl ?_
  refine ru_istore ddX2_gapCount_1 (by decide) rfl rfl ?_
  refine ru_iload_n ddX2_gapCount_3 rfl ?_
  refine ru_istore ddX2_gapCount_4 (by decide) rfl rfl ?_
  refine ru_wk (L2 := [some (rurf E 23), some (.int x1), none, some (.int x3), some (.int (0 : Int32)), some (.int x2)]) ⟨rfl, rfl, rfl, rfl, rfl, trivial⟩ ?_
  exact wX2_gapCount_l6 hd x1 x3 A (fun v3 h => by
        refine ru_iload ddX2_gapCount_31 rfl ?_
        exact ru_iretP ddX2_gapCount_33 rfl h) ruF (0 : Int32) x2 h
theorem wX10_gaps {E : ruE} (d : Nat) (hd : 3 ≤ d) (x1 : Int32) (x2 : Int32) (x3 : Int32) (x4 : Int32) (A : ruA) {r : Int32} {B : ruA} (h : fX10_gaps x1 x2 x3 x4 A = some (r, B)) : ruC E mmX10_gaps d [rurf E 0, .int x1, .int x2, .int x3, .int x4] A (ruPr r B) := by
  refine ruC.of (L := [some (rurf E 0), some (.int x1), some (.int x2), some (.int x3), some (.int x4)]) (by decide) rfl (Nat.le_of_ble_eq_true rfl) rfl ?_
  unfold fX10_gaps at h
  refine ru_aload_n ddX10_gaps_0 rfl ?_
  refine ru_iload_n ddX10_gaps_1 rfl ?_
  obtain ⟨v1, hv, h⟩ := ruB_inv h
  refine ru_callVi (as := [.int x1]) (st := []) ddX10_gaps_2 cvX10_98 rfl (wX10_isRoom 2 (Nat.le_refl _) x1 A hv) rfl (Nat.le_trans (m := 3) (by decide) hd) (Nat.le_of_ble_eq_true rfl) ?_
  clear hv
  refine ru_if_eq 26 ddX10_gaps_5 (by decide) (fun hc => ?_) (fun hc => ?_)
  · rw [if_pos hc] at h
    refine ru_aload_n ddX10_gaps_26 rfl ?_
    refine ru_ldc (v := (-1000001 : Int32)) ddX10_gaps_27 ckX10_81 ?_
    obtain ⟨v2, A3, hv, h⟩ := ruB2_inv h
    refine ru_callVi (as := [.int (-1000001 : Int32)]) (st := []) ddX10_gaps_29 cvX10_82 rfl (wX10_finding 2 (Nat.le_refl _) (-1000001 : Int32) A hv) rfl (Nat.le_trans (m := 3) (by decide) hd) (Nat.le_of_ble_eq_true rfl) ?_
    clear hv
    exact ru_iretW ddX10_gaps_32 rfl h
  · rw [if_neg hc] at h
    refine ru_iload_n ddX10_gaps_8 rfl ?_
    refine ru_iload_n ddX10_gaps_9 rfl ?_
    obtain ⟨v4, hv, h⟩ := ruB_inv h
    refine ru_callSi (as := [.int x2, .int x3]) (st := []) ddX10_gaps_10 csX10_309 (wX10_areHours 1 (Nat.le_refl _) x2 x3 A hv) rfl (Nat.le_trans (m := 3) (by decide) hd) (Nat.le_of_ble_eq_true rfl) ?_
    clear hv
    refine ru_if_eq 26 ddX10_gaps_13 (by decide) (fun hc => ?_) (fun hc => ?_)
    · rw [if_pos hc] at h
      refine ru_aload_n ddX10_gaps_26 rfl ?_
      refine ru_ldc (v := (-1000001 : Int32)) ddX10_gaps_27 ckX10_81 ?_
      obtain ⟨v5, A6, hv, h⟩ := ruB2_inv h
      refine ru_callVi (as := [.int (-1000001 : Int32)]) (st := []) ddX10_gaps_29 cvX10_82 rfl (wX10_finding 2 (Nat.le_refl _) (-1000001 : Int32) A hv) rfl (Nat.le_trans (m := 3) (by decide) hd) (Nat.le_of_ble_eq_true rfl) ?_
      clear hv
      exact ru_iretW ddX10_gaps_32 rfl h
    · rw [if_neg hc] at h
      refine ru_iload ddX10_gaps_16 rfl ?_
      refine ru_iconst (0 : Int32) ddX10_gaps_18 rfl ?_
      refine ru_iconst (1 : Int32) ddX10_gaps_19 rfl ?_
      obtain ⟨v7, hv, h⟩ := ruB_inv h
      refine ru_callSi (as := [.int x4, .int (0 : Int32), .int (1 : Int32)]) (st := []) ddX10_gaps_20 csX10_77 (wX10_isWithin 1 (Nat.le_refl _) x4 (0 : Int32) (1 : Int32) A hv) rfl (Nat.le_trans (m := 3) (by decide) hd) (Nat.le_of_ble_eq_true rfl) ?_
      clear hv
      refine ru_if_ne 33 ddX10_gaps_23 (by decide) (fun hc => ?_) (fun hc => ?_)
      · rw [if_neg hc] at h
        refine ru_iload ddX10_gaps_33 rfl ?_
        refine ru_if_ne 54 ddX10_gaps_35 (by decide) (fun hc => ?_) (fun hc => ?_)
        · rw [if_neg hc] at h
          refine ru_aload_n ddX10_gaps_54 rfl ?_
          refine ru_getR (r := 1) ddX10_gaps_55 flX10_12 rfl rfl ?_
          refine ru_getR (r := 23) ddX10_gaps_58 flX10_312 rfl rfl ?_
          refine ru_iload_n ddX10_gaps_61 rfl ?_
          refine ru_iload_n ddX10_gaps_62 rfl ?_
          refine ru_iload_n ddX10_gaps_63 rfl ?_
          obtain ⟨v8, hv, h⟩ := ruB_inv h
          refine ru_callVi (as := [.int x1, .int x2, .int x3]) (st := []) ddX10_gaps_64 cvX10_325 rfl (wX2_firstGap 2 (Nat.le_refl _) x1 x2 x3 A hv) rfl (Nat.le_trans (m := 3) (by decide) hd) (Nat.le_of_ble_eq_true rfl) ?_
          clear hv
          exact ru_iretW ddX10_gaps_67 rfl h
        · rw [if_pos hc] at h
          refine ru_aload_n ddX10_gaps_38 rfl ?_
          refine ru_getR (r := 1) ddX10_gaps_39 flX10_12 rfl rfl ?_
          refine ru_getR (r := 23) ddX10_gaps_42 flX10_312 rfl rfl ?_
          refine ru_iload_n ddX10_gaps_45 rfl ?_
          refine ru_iload_n ddX10_gaps_46 rfl ?_
          refine ru_iload_n ddX10_gaps_47 rfl ?_
          obtain ⟨v9, hv, h⟩ := ruB_inv h
          refine ru_callVi (as := [.int x1, .int x2, .int x3]) (st := []) ddX10_gaps_48 cvX10_322 rfl (wX2_gapCount 2 (Nat.le_refl _) x1 x2 x3 A hv) rfl (Nat.le_trans (m := 3) (by decide) hd) (Nat.le_of_ble_eq_true rfl) ?_
          clear hv
          refine ru_goto 67 ddX10_gaps_51 (by decide) ?_
          exact ru_iretW ddX10_gaps_67 rfl h
      · rw [if_pos hc] at h
        refine ru_aload_n ddX10_gaps_26 rfl ?_
        refine ru_ldc (v := (-1000001 : Int32)) ddX10_gaps_27 ckX10_81 ?_
        obtain ⟨v10, A11, hv, h⟩ := ruB2_inv h
        refine ru_callVi (as := [.int (-1000001 : Int32)]) (st := []) ddX10_gaps_29 cvX10_82 rfl (wX10_finding 2 (Nat.le_refl _) (-1000001 : Int32) A hv) rfl (Nat.le_trans (m := 3) (by decide) hd) (Nat.le_of_ble_eq_true rfl) ?_
        clear hv
        exact ru_iretW ddX10_gaps_32 rfl h
theorem wJ7_fill_53178_l5 {E : ruE} {d : Nat} (hd : 1 ≤ d) {β : Type} {Q : Option Value → ruA → Prop} {res : β} (x0 : Nat) (x1 : Int32) (x3 : Int32) {k20 : ruA → Option (β)} (hk20 : ∀ (A : ruA), k20 A = some res → ruW E mmJ7_fill_53178 d Q 20 [none, none, none, none] [] A) : ∀ (n : Nat) (x2 : Int32) (A : ruA), fJ7_fill_53178_l5 x0 x1 x3 k20 n x2 A = some res → ruW E mmJ7_fill_53178 d Q 5 [some (rurf E x0), some (.int x1), some (.int x2), some (.int x3)] [] A := by
  intro n
  induction n with
  | zero =>
    intro x2 A h
    exact absurd h (by rw [fJ7_fill_53178_l5]; exact fun h => nomatch h)
  | succ n ih =>
    intro x2 A h
    rw [fJ7_fill_53178_l5] at h
    refine ru_iload_n ddJ7_fill_53178_5 rfl ?_
    refine ru_iload_n ddJ7_fill_53178_6 rfl ?_
    refine ru_icmp_ge 20 ddJ7_fill_53178_7 (by decide) (fun hc => ?_) (fun hc => ?_)
    · rw [if_pos hc] at h
      refine ru_wk (L2 := [none, none, none, none]) trivial ?_
      exact hk20 A h
    · rw [if_neg hc] at h
      refine ru_aload_n ddJ7_fill_53178_10 rfl ?_
      refine ru_iload_n ddJ7_fill_53178_11 rfl ?_
      refine ru_iload_n ddJ7_fill_53178_12 rfl ?_
      obtain ⟨n2, hn2, h⟩ := ruB_inv h
      obtain ⟨A3, hv, h⟩ := ruB_inv h
      refine ru_iast ddJ7_fill_53178_13 (rudI_eq hn2) hv ?_
      clear hv
      refine ru_iinc (x2 + (1 : Int32)) ddJ7_fill_53178_14 (by decide) rfl rfl rfl rfl ?_
      refine ru_goto 5 ddJ7_fill_53178_17 (by decide) ?_
      exact ih (x2 + (1 : Int32)) A3 h
theorem wJ7_fill_53178 {E : ruE} (d : Nat) (hd : 1 ≤ d) (x0 : Nat) (x1 : Int32) (A : ruA) {B : ruA} (h : fJ7_fill_53178 x0 x1 A = some B) : ruC E mmJ7_fill_53178 d [rurf E x0, .int x1] A (ruPv B) := by
  refine ruC.of (L := [some (rurf E x0), some (.int x1), none, none]) (by decide) rfl (Nat.le_of_ble_eq_true rfl) rfl ?_
  unfold fJ7_fill_53178 at h
  refine ru_iconst (0 : Int32) ddJ7_fill_53178_0 rfl ?_
  refine ru_istore_n ddJ7_fill_53178_1 (by decide) rfl rfl ?_
  refine ru_aload_n ddJ7_fill_53178_2 rfl ?_
  obtain ⟨n1, hn1, h⟩ := ruB_inv h
  refine ru_alen (v := Int32.ofNat n1) ddJ7_fill_53178_3 (rudI_eq hn1) (by decide) rfl ?_
  refine ru_istore_n ddJ7_fill_53178_4 (by decide) rfl rfl ?_
  exact wJ7_fill_53178_l5 hd x0 x1 (Int32.ofNat n1) (fun A4 h => by
        exact ru_vretW ddJ7_fill_53178_20 rfl h) ruF (0 : Int32) A h
theorem wX2_holdersOfAtLeast_l30 {E : ruE} {d : Nat} (hd : 2 ≤ d) {β : Type} {Q : Option Value → ruA → Prop} {res : β} (x1 : Int32) (x2 : Int32) (x4 : Int32) (x5 : Int32) (x6 : Int32) {k60 : ruA → Option (β)} (hk60 : ∀ (A : ruA), k60 A = some res → ruW E mmX2_holdersOfAtLeast d Q 60 [some (rurf E 23), some (.int x1), some (.int x2), none, some (.int x4), some (.int x5), none, none] [] A) : ∀ (n : Nat) (x7 : Int32) (A : ruA), fX2_holdersOfAtLeast_l30 x1 x2 x4 x5 x6 k60 n x7 A = some res → ruW E mmX2_holdersOfAtLeast d Q 30 [some (rurf E 23), some (.int x1), some (.int x2), none, some (.int x4), some (.int x5), some (.int x6), some (.int x7)] [] A := by
  intro n
  induction n with
  | zero =>
    intro x7 A h
    exact absurd h (by rw [fX2_holdersOfAtLeast_l30]; exact fun h => nomatch h)
  | succ n ih =>
    intro x7 A h
    rw [fX2_holdersOfAtLeast_l30] at h
    refine ru_iload ddX2_holdersOfAtLeast_30 rfl ?_
    refine ru_bipush (10 : Int32) ddX2_holdersOfAtLeast_32 rfl ?_
    refine ru_icmp_ge 60 ddX2_holdersOfAtLeast_34 (by decide) (fun hc => ?_) (fun hc => ?_)
    · rw [if_pos hc] at h
      refine ru_wk (L2 := [some (rurf E 23), some (.int x1), some (.int x2), none, some (.int x4), some (.int x5), none, none]) ⟨rfl, rfl, rfl, rfl, rfl, trivial⟩ ?_
      exact hk60 A h
    · rw [if_neg hc] at h
      refine ru_aload_n ddX2_holdersOfAtLeast_37 rfl ?_
      refine ru_getR (r := 28) ddX2_holdersOfAtLeast_38 flX2_24 rfl rfl ?_
      refine ru_iload ddX2_holdersOfAtLeast_41 rfl ?_
      refine ru_dup2 ddX2_holdersOfAtLeast_43 rfl rfl ?_
      obtain ⟨v3, hv, h⟩ := ruB_inv h
      refine ru_iald ddX2_holdersOfAtLeast_44 rfl hv ?_
      clear hv
      refine ru_iload ddX2_holdersOfAtLeast_45 rfl ?_
      refine ru_iload ddX2_holdersOfAtLeast_47 rfl ?_
      refine ru_iushr2 ddX2_holdersOfAtLeast_49 ?_
      refine ru_iconst (1 : Int32) ddX2_holdersOfAtLeast_50 rfl ?_
      refine ru_iand ddX2_holdersOfAtLeast_51 ?_
      refine ru_iadd ddX2_holdersOfAtLeast_52 ?_
      obtain ⟨A4, hv, h⟩ := ruB_inv h
      refine ru_iast ddX2_holdersOfAtLeast_53 rfl hv ?_
      clear hv
      refine ru_iinc (x7 + (1 : Int32)) ddX2_holdersOfAtLeast_54 (by decide) rfl rfl rfl rfl ?_
      refine ru_goto 30 ddX2_holdersOfAtLeast_57 (by decide) ?_
      exact ih (x7 + (1 : Int32)) A4 h
theorem wX2_holdersOfAtLeast_l11 {E : ruE} {d : Nat} (hd : 2 ≤ d) {β : Type} {Q : Option Value → ruA → Prop} {res : β} (x1 : Int32) (x2 : Int32) (x4 : Int32) {k66 : ruA → Option (β)} (hk66 : ∀ (A : ruA), k66 A = some res → ruW E mmX2_holdersOfAtLeast d Q 66 [some (rurf E 23), some (.int x1), none, none, none, none, none, none] [] A) : ∀ (n : Nat) (x5 : Int32) (A : ruA), fX2_holdersOfAtLeast_l11 x1 x2 x4 k66 n x5 A = some res → ruW E mmX2_holdersOfAtLeast d Q 11 [some (rurf E 23), some (.int x1), some (.int x2), none, some (.int x4), some (.int x5), none, none] [] A := by
  intro n
  induction n with
  | zero =>
    intro x5 A h
    exact absurd h (by rw [fX2_holdersOfAtLeast_l11]; exact fun h => nomatch h)
  | succ n ih =>
    intro x5 A h
    rw [fX2_holdersOfAtLeast_l11] at h
    refine ru_iload ddX2_holdersOfAtLeast_11 rfl ?_
    refine ru_iload ddX2_holdersOfAtLeast_13 rfl ?_
    refine ru_icmp_ge 66 ddX2_holdersOfAtLeast_15 (by decide) (fun hc => ?_) (fun hc => ?_)
    · rw [if_pos hc] at h
      refine ru_wk (L2 := [some (rurf E 23), some (.int x1), none, none, none, none, none, none]) ⟨rfl, rfl, trivial⟩ ?_
      exact hk66 A h
    · rw [if_neg hc] at h
      refine ru_aload_n ddX2_holdersOfAtLeast_18 rfl ?_
      refine ru_iload_n ddX2_holdersOfAtLeast_19 rfl ?_
      refine ru_iload ddX2_holdersOfAtLeast_20 rfl ?_
      obtain ⟨v2, hv, h⟩ := ruB_inv h
      refine ru_callVi (as := [.int x2, .int x5]) (st := []) ddX2_holdersOfAtLeast_22 cvX2_37 rfl (wX2_holdersAt 1 (Nat.le_refl _) x2 x5 A hv) rfl (Nat.le_trans (m := 2) (by decide) hd) (Nat.le_of_ble_eq_true rfl) ?_
      clear hv
      refine ru_istore ddX2_holdersOfAtLeast_25 (by decide) rfl rfl ?_
      refine ru_iconst (0 : Int32) ddX2_holdersOfAtLeast_27 rfl ?_
      refine ru_istore ddX2_holdersOfAtLeast_28 (by decide) rfl rfl ?_
      exact wX2_holdersOfAtLeast_l30 hd x1 x2 x4 x5 v2 (fun A5 h => by
            refine ru_iinc (x5 + (1 : Int32)) ddX2_holdersOfAtLeast_60 (by decide) rfl rfl rfl rfl ?_
            refine ru_goto 11 ddX2_holdersOfAtLeast_63 (by decide) ?_
            exact ih (x5 + (1 : Int32)) A5 h) ruF (0 : Int32) A h
theorem wX2_holdersOfAtLeast_l72 {E : ruE} {d : Nat} (hd : 2 ≤ d) {β : Type} {Q : Option Value → ruA → Prop} {res : β} (x1 : Int32) (A : ruA) {k105 : Int32 → Option (β)} (hk105 : ∀ (x5 : Int32), k105 x5 = some res → ruW E mmX2_holdersOfAtLeast d Q 105 [none, none, none, none, none, some (.int x5), none, none] [] A) : ∀ (n : Nat) (x5 : Int32) (x6 : Int32), fX2_holdersOfAtLeast_l72 x1 A k105 n x5 x6 = some res → ruW E mmX2_holdersOfAtLeast d Q 72 [some (rurf E 23), some (.int x1), none, none, none, some (.int x5), some (.int x6), none] [] A := by
  intro n
  induction n with
  | zero =>
    intro x5 x6 h
    exact absurd h (by rw [fX2_holdersOfAtLeast_l72]; exact fun h => nomatch h)
  | succ n ih =>
    intro x5 x6 h
    rw [fX2_holdersOfAtLeast_l72] at h
    refine ru_iload ddX2_holdersOfAtLeast_72 rfl ?_
    refine ru_bipush (10 : Int32) ddX2_holdersOfAtLeast_74 rfl ?_
    refine ru_icmp_ge 105 ddX2_holdersOfAtLeast_76 (by decide) (fun hc => ?_) (fun hc => ?_)
    · rw [if_pos hc] at h
      refine ru_wk (L2 := [none, none, none, none, none, some (.int x5), none, none]) ⟨rfl, trivial⟩ ?_
      exact hk105 x5 h
    · rw [if_neg hc] at h
      refine ru_aload_n ddX2_holdersOfAtLeast_79 rfl ?_
      refine ru_getR (r := 28) ddX2_holdersOfAtLeast_80 flX2_24 rfl rfl ?_
      refine ru_iload ddX2_holdersOfAtLeast_83 rfl ?_
      obtain ⟨v7, hv, h⟩ := ruB_inv h
      refine ru_iald ddX2_holdersOfAtLeast_85 rfl hv ?_
      clear hv
      refine ru_iload_n ddX2_holdersOfAtLeast_86 rfl ?_
      obtain ⟨v8, hq, h⟩ := ruB_inv h
      have J : ruW E mmX2_holdersOfAtLeast d Q 99 [some (rurf E 23), some (.int x1), none, none, none, some (.int v8), some (.int x6), none] [] A := by
          refine ru_iinc (x6 + (1 : Int32)) ddX2_holdersOfAtLeast_99 (by decide) rfl rfl rfl rfl ?_
          refine ru_goto 72 ddX2_holdersOfAtLeast_102 (by decide) ?_
          exact ih v8 (x6 + (1 : Int32)) h
      replace h := hq
      clear hq
      refine ru_icmp_lt 99 ddX2_holdersOfAtLeast_87 (by decide) (fun hc => ?_) (fun hc => ?_)
      · rw [if_pos hc] at h
        refine ru_wk (L2 := [some (rurf E 23), some (.int x1), none, none, none, some (.int x5), some (.int x6), none]) ⟨rfl, rfl, rfl, rfl, trivial⟩ ?_
        obtain rfl := ruS1 h
        exact J
      · rw [if_neg hc] at h
        refine ru_iload ddX2_holdersOfAtLeast_90 rfl ?_
        refine ru_iconst (1 : Int32) ddX2_holdersOfAtLeast_92 rfl ?_
        refine ru_iload ddX2_holdersOfAtLeast_93 rfl ?_
        refine ru_ishl ddX2_holdersOfAtLeast_95 ?_
        refine ru_ior ddX2_holdersOfAtLeast_96 ?_
        refine ru_istore ddX2_holdersOfAtLeast_97 (by decide) rfl rfl ?_
        refine ru_wk (L2 := [some (rurf E 23), some (.int x1), none, none, none, some (.int (x5 ||| ((1 : Int32) <<< (x6 &&& 31)))), some (.int x6), none]) ⟨rfl, rfl, rfl, rfl, trivial⟩ ?_
        obtain rfl := ruS1 h
        exact J
theorem wX2_holdersOfAtLeast {E : ruE} (d : Nat) (hd : 2 ≤ d) (x1 : Int32) (x2 : Int32) (x3 : Int32) (x4 : Int32) (A : ruA) {r : Int32} {B : ruA} (h : fX2_holdersOfAtLeast x1 x2 x3 x4 A = some (r, B)) : ruC E mmX2_holdersOfAtLeast d [rurf E 23, .int x1, .int x2, .int x3, .int x4] A (ruPr r B) := by
  refine ruC.of (L := [some (rurf E 23), some (.int x1), some (.int x2), some (.int x3), some (.int x4), none, none, none]) (by decide) rfl (Nat.le_of_ble_eq_true rfl) rfl ?_
  unfold fX2_holdersOfAtLeast at h
  refine ru_aload_n ddX2_holdersOfAtLeast_0 rfl ?_
  refine ru_getR (r := 28) ddX2_holdersOfAtLeast_1 flX2_24 rfl rfl ?_
  refine ru_iconst (0 : Int32) ddX2_holdersOfAtLeast_4 rfl ?_
  obtain ⟨A1, hv, h⟩ := ruB_inv h
  refine ru_callSv (as := [rurf E 28, .int (0 : Int32)]) (st := []) ddX2_holdersOfAtLeast_5 csX2_41 (wJ7_fill_53178 1 (Nat.le_refl _) 28 (0 : Int32) A hv) rfl (Nat.le_trans (m := 2) (by decide) hd) (Nat.le_of_ble_eq_true rfl) ?_
  clear hv
  refine ru_iload_n ddX2_holdersOfAtLeast_8 rfl ?_
  refine ru_istore ddX2_holdersOfAtLeast_9 (by decide) rfl rfl ?_
  refine ru_wk (L2 := [some (rurf E 23), some (.int x1), some (.int x2), none, some (.int x4), some (.int x3), none, none]) ⟨rfl, rfl, rfl, rfl, rfl, trivial⟩ ?_
  exact wX2_holdersOfAtLeast_l11 hd x1 x2 x4 (fun A6 h => by
        refine ru_iconst (0 : Int32) ddX2_holdersOfAtLeast_66 rfl ?_
        refine ru_istore ddX2_holdersOfAtLeast_67 (by decide) rfl rfl ?_
        refine ru_iconst (0 : Int32) ddX2_holdersOfAtLeast_69 rfl ?_
        refine ru_istore ddX2_holdersOfAtLeast_70 (by decide) rfl rfl ?_
        exact wX2_holdersOfAtLeast_l72 hd x1 A6 (fun v9 h => by
              refine ru_iload ddX2_holdersOfAtLeast_105 rfl ?_
              exact ru_iretW ddX2_holdersOfAtLeast_107 rfl h) ruF (0 : Int32) (0 : Int32) h) ruF x3 A1 h
theorem wX10_could {E : ruE} (d : Nat) (hd : 3 ≤ d) (x1 : Int32) (x2 : Int32) (x3 : Int32) (x4 : Int32) (A : ruA) {r : Int32} {B : ruA} (h : fX10_could x1 x2 x3 x4 A = some (r, B)) : ruC E mmX10_could d [rurf E 0, .int x1, .int x2, .int x3, .int x4] A (ruPr r B) := by
  refine ruC.of (L := [some (rurf E 0), some (.int x1), some (.int x2), some (.int x3), some (.int x4)]) (by decide) rfl (Nat.le_of_ble_eq_true rfl) rfl ?_
  unfold fX10_could at h
  refine ru_aload_n ddX10_could_0 rfl ?_
  refine ru_iload_n ddX10_could_1 rfl ?_
  obtain ⟨v1, hv, h⟩ := ruB_inv h
  refine ru_callVi (as := [.int x1]) (st := []) ddX10_could_2 cvX10_98 rfl (wX10_isRoom 2 (Nat.le_refl _) x1 A hv) rfl (Nat.le_trans (m := 3) (by decide) hd) (Nat.le_of_ble_eq_true rfl) ?_
  clear hv
  refine ru_if_eq 27 ddX10_could_5 (by decide) (fun hc => ?_) (fun hc => ?_)
  · rw [if_pos hc] at h
    refine ru_aload_n ddX10_could_27 rfl ?_
    refine ru_ldc (v := (-1000001 : Int32)) ddX10_could_28 ckX10_81 ?_
    obtain ⟨v2, A3, hv, h⟩ := ruB2_inv h
    refine ru_callVi (as := [.int (-1000001 : Int32)]) (st := []) ddX10_could_30 cvX10_82 rfl (wX10_finding 2 (Nat.le_refl _) (-1000001 : Int32) A hv) rfl (Nat.le_trans (m := 3) (by decide) hd) (Nat.le_of_ble_eq_true rfl) ?_
    clear hv
    exact ru_iretW ddX10_could_33 rfl h
  · rw [if_neg hc] at h
    refine ru_iload_n ddX10_could_8 rfl ?_
    refine ru_iload_n ddX10_could_9 rfl ?_
    obtain ⟨v4, hv, h⟩ := ruB_inv h
    refine ru_callSi (as := [.int x2, .int x3]) (st := []) ddX10_could_10 csX10_309 (wX10_areHours 1 (Nat.le_refl _) x2 x3 A hv) rfl (Nat.le_trans (m := 3) (by decide) hd) (Nat.le_of_ble_eq_true rfl) ?_
    clear hv
    refine ru_if_eq 27 ddX10_could_13 (by decide) (fun hc => ?_) (fun hc => ?_)
    · rw [if_pos hc] at h
      refine ru_aload_n ddX10_could_27 rfl ?_
      refine ru_ldc (v := (-1000001 : Int32)) ddX10_could_28 ckX10_81 ?_
      obtain ⟨v5, A6, hv, h⟩ := ruB2_inv h
      refine ru_callVi (as := [.int (-1000001 : Int32)]) (st := []) ddX10_could_30 cvX10_82 rfl (wX10_finding 2 (Nat.le_refl _) (-1000001 : Int32) A hv) rfl (Nat.le_trans (m := 3) (by decide) hd) (Nat.le_of_ble_eq_true rfl) ?_
      clear hv
      exact ru_iretW ddX10_could_33 rfl h
    · rw [if_neg hc] at h
      refine ru_iload ddX10_could_16 rfl ?_
      refine ru_iconst (1 : Int32) ddX10_could_18 rfl ?_
      refine ru_bipush (99 : Int32) ddX10_could_19 rfl ?_
      obtain ⟨v7, hv, h⟩ := ruB_inv h
      refine ru_callSi (as := [.int x4, .int (1 : Int32), .int (99 : Int32)]) (st := []) ddX10_could_21 csX10_77 (wX10_isWithin 1 (Nat.le_refl _) x4 (1 : Int32) (99 : Int32) A hv) rfl (Nat.le_trans (m := 3) (by decide) hd) (Nat.le_of_ble_eq_true rfl) ?_
      clear hv
      refine ru_if_ne 34 ddX10_could_24 (by decide) (fun hc => ?_) (fun hc => ?_)
      · rw [if_neg hc] at h
        refine ru_aload_n ddX10_could_34 rfl ?_
        refine ru_getR (r := 1) ddX10_could_35 flX10_12 rfl rfl ?_
        refine ru_getR (r := 23) ddX10_could_38 flX10_312 rfl rfl ?_
        refine ru_iload ddX10_could_41 rfl ?_
        refine ru_iload_n ddX10_could_43 rfl ?_
        refine ru_iload_n ddX10_could_44 rfl ?_
        refine ru_iload_n ddX10_could_45 rfl ?_
        obtain ⟨v8, A9, hv, h⟩ := ruB2_inv h
        refine ru_callVi (as := [.int x4, .int x1, .int x2, .int x3]) (st := []) ddX10_could_46 cvX10_328 rfl (wX2_holdersOfAtLeast 2 (Nat.le_refl _) x4 x1 x2 x3 A hv) rfl (Nat.le_trans (m := 3) (by decide) hd) (Nat.le_of_ble_eq_true rfl) ?_
        clear hv
        exact ru_iretW ddX10_could_49 rfl h
      · rw [if_pos hc] at h
        refine ru_aload_n ddX10_could_27 rfl ?_
        refine ru_ldc (v := (-1000001 : Int32)) ddX10_could_28 ckX10_81 ?_
        obtain ⟨v10, A11, hv, h⟩ := ruB2_inv h
        refine ru_callVi (as := [.int (-1000001 : Int32)]) (st := []) ddX10_could_30 cvX10_82 rfl (wX10_finding 2 (Nat.le_refl _) (-1000001 : Int32) A hv) rfl (Nat.le_trans (m := 3) (by decide) hd) (Nat.le_of_ble_eq_true rfl) ?_
        clear hv
        exact ru_iretW ddX10_could_33 rfl h
theorem wX1_withThoseUnder_l4 {E : ruE} {d : Nat} (hd : 2 ≤ d) {β : Type} {Q : Option Value → ruA → Prop} {res : β} (x0 : Int32) (A : ruA) {k32 : Int32 → Option (β)} (hk32 : ∀ (x1 : Int32), k32 x1 = some res → ruW E mmX1_withThoseUnder d Q 32 [none, some (.int x1), none] [] A) : ∀ (n : Nat) (x1 : Int32) (x2 : Int32), fX1_withThoseUnder_l4 x0 k32 n x1 x2 = some res → ruW E mmX1_withThoseUnder d Q 4 [some (.int x0), some (.int x1), some (.int x2)] [] A := by
  intro n
  induction n with
  | zero =>
    intro x1 x2 h
    exact absurd h (by rw [fX1_withThoseUnder_l4]; exact fun h => nomatch h)
  | succ n ih =>
    intro x1 x2 h
    rw [fX1_withThoseUnder_l4] at h
    refine ru_iload_n ddX1_withThoseUnder_4 rfl ?_
    refine ru_bipush (8 : Int32) ddX1_withThoseUnder_5 rfl ?_
    refine ru_icmp_ge 32 ddX1_withThoseUnder_7 (by decide) (fun hc => ?_) (fun hc => ?_)
    · rw [if_pos hc] at h
      refine ru_wk (L2 := [none, some (.int x1), none]) ⟨rfl, trivial⟩ ?_
      exact hk32 x1 h
    · rw [if_neg hc] at h
      refine ru_iload_n ddX1_withThoseUnder_10 rfl ?_
      refine ru_iload_n ddX1_withThoseUnder_11 rfl ?_
      obtain ⟨v1, hv, h⟩ := ruB_inv h
      refine ru_callNi (as := [.int x0, .int x2]) (st := []) ddX1_withThoseUnder_12 cnX1_32 (wX10_has 1 (Nat.le_refl _) x0 x2 A hv) rfl (Nat.le_trans (m := 2) (by decide) hd) (Nat.le_of_ble_eq_true rfl) ?_
      clear hv
      obtain ⟨v2, hq, h⟩ := ruB_inv h
      have J : ruW E mmX1_withThoseUnder d Q 26 [some (.int x0), some (.int v2), some (.int x2)] [] A := by
          refine ru_iinc (x2 + (1 : Int32)) ddX1_withThoseUnder_26 (by decide) rfl rfl rfl rfl ?_
          refine ru_goto 4 ddX1_withThoseUnder_29 (by decide) ?_
          exact ih v2 (x2 + (1 : Int32)) h
      replace h := hq
      clear hq
      refine ru_if_eq 26 ddX1_withThoseUnder_15 (by decide) (fun hc => ?_) (fun hc => ?_)
      · rw [if_pos hc] at h
        refine ru_wk (L2 := [some (.int x0), some (.int x1), some (.int x2)]) ⟨rfl, rfl, rfl, trivial⟩ ?_
        obtain rfl := ruS1 h
        exact J
      · rw [if_neg hc] at h
        refine ru_iload_n ddX1_withThoseUnder_18 rfl ?_
        refine ru_underN ddX1_withThoseUnder_19 uNX1_36 ?_
        refine ru_iload_n ddX1_withThoseUnder_22 rfl ?_
        obtain ⟨v3, hv, h⟩ := ruB_inv h
        refine ru_uald ddX1_withThoseUnder_23 hv ?_
        clear hv
        refine ru_ior ddX1_withThoseUnder_24 ?_
        refine ru_istore_n ddX1_withThoseUnder_25 (by decide) rfl rfl ?_
        refine ru_wk (L2 := [some (.int x0), some (.int (x1 ||| v3)), some (.int x2)]) ⟨rfl, rfl, rfl, trivial⟩ ?_
        obtain rfl := ruS1 h
        exact J
theorem wX1_withThoseUnder {E : ruE} (d : Nat) (hd : 2 ≤ d) (x0 : Int32) (A : ruA) {r : Int32} (h : fX1_withThoseUnder x0 = some r) : ruC E mmX1_withThoseUnder d [.int x0] A (ruPr r A) := by
  refine ruC.of (L := [some (.int x0), none, none]) (by decide) rfl (Nat.le_of_ble_eq_true rfl) rfl ?_
  unfold fX1_withThoseUnder at h
  refine ru_iconst (0 : Int32) ddX1_withThoseUnder_0 rfl ?_
  refine ru_istore_n ddX1_withThoseUnder_1 (by decide) rfl rfl ?_
  refine ru_iconst (0 : Int32) ddX1_withThoseUnder_2 rfl ?_
  refine ru_istore_n ddX1_withThoseUnder_3 (by decide) rfl rfl ?_
  exact wX1_withThoseUnder_l4 hd x0 A (fun v4 h => by
        refine ru_iload_n ddX1_withThoseUnder_32 rfl ?_
        exact ru_iretP ddX1_withThoseUnder_33 rfl h) ruF (0 : Int32) (0 : Int32) h
theorem wX1_made {E : ruE} (d : Nat) (hd : 3 ≤ d) (x1 : Int32) (x2 : Int32) (A : ruA) {r : Int32} {B : ruA} (h : fX1_made x1 x2 A = some (r, B)) : ruC E mmX1_made d [rurf E 29, .int x1, .int x2] A (ruPr r B) := by
  refine ruC.of (L := [some (rurf E 29), some (.int x1), some (.int x2), none]) (by decide) rfl (Nat.le_of_ble_eq_true rfl) rfl ?_
  unfold fX1_made at h
  refine ru_aload_n ddX1_made_0 rfl ?_
  refine ru_getI ddX1_made_1 flX1_18 rfl ?_
  refine ru_istore_n ddX1_made_4 (by decide) rfl rfl ?_
  refine ru_aload_n ddX1_made_5 rfl ?_
  refine ru_getR (r := 30) ddX1_made_6 flX1_9 rfl rfl ?_
  refine ru_iload_n ddX1_made_9 rfl ?_
  refine ru_iload_n ddX1_made_10 rfl ?_
  obtain ⟨A1, hv, h⟩ := ruB_inv h
  refine ru_iast ddX1_made_11 rfl hv ?_
  clear hv
  refine ru_aload_n ddX1_made_12 rfl ?_
  refine ru_getR (r := 31) ddX1_made_13 flX1_15 rfl rfl ?_
  refine ru_iload_n ddX1_made_16 rfl ?_
  refine ru_iload_n ddX1_made_17 rfl ?_
  obtain ⟨v2, hv, h⟩ := ruB_inv h
  refine ru_callSi (as := [.int x2]) (st := [.int (A.1 29 0), rurf E 31]) ddX1_made_18 csX1_28 (wX1_withThoseUnder 2 (Nat.le_refl _) x2 A1 hv) rfl (Nat.le_trans (m := 3) (by decide) hd) (Nat.le_of_ble_eq_true rfl) ?_
  clear hv
  obtain ⟨A3, hv, h⟩ := ruB_inv h
  refine ru_iast ddX1_made_21 rfl hv ?_
  clear hv
  refine ru_aload_n ddX1_made_22 rfl ?_
  refine ru_dup ddX1_made_23 rfl ?_
  refine ru_getI ddX1_made_24 flX1_18 rfl ?_
  refine ru_iconst (1 : Int32) ddX1_made_27 rfl ?_
  refine ru_iadd ddX1_made_28 ?_
  obtain ⟨A4, hv, h⟩ := ruB_inv h
  refine ru_putI2 ddX1_made_29 flX1_18 fp1_0 rfl hv ?_
  clear hv
  refine ru_iload_n ddX1_made_32 rfl ?_
  exact ru_iretW ddX1_made_33 rfl h
theorem wX10_form {E : ruE} (d : Nat) (hd : 4 ≤ d) (x1 : Int32) (x2 : Int32) (A : ruA) {r : Int32} {B : ruA} (h : fX10_form x1 x2 A = some (r, B)) : ruC E mmX10_form d [rurf E 0, .int x1, .int x2] A (ruPr r B) := by
  refine ruC.of (L := [some (rurf E 0), some (.int x1), some (.int x2)]) (by decide) rfl (Nat.le_of_ble_eq_true rfl) rfl ?_
  unfold fX10_form at h
  refine ru_iload_n ddX10_form_0 rfl ?_
  refine ru_iconst (0 : Int32) ddX10_form_1 rfl ?_
  refine ru_bipush (99 : Int32) ddX10_form_2 rfl ?_
  obtain ⟨v1, hv, h⟩ := ruB_inv h
  refine ru_callSi (as := [.int x1, .int (0 : Int32), .int (99 : Int32)]) (st := []) ddX10_form_4 csX10_77 (wX10_isWithin 1 (Nat.le_refl _) x1 (0 : Int32) (99 : Int32) A hv) rfl (Nat.le_trans (m := 4) (by decide) hd) (Nat.le_of_ble_eq_true rfl) ?_
  clear hv
  refine ru_if_eq 21 ddX10_form_7 (by decide) (fun hc => ?_) (fun hc => ?_)
  · rw [if_pos hc] at h
    refine ru_aload_n ddX10_form_21 rfl ?_
    refine ru_ldc (v := (-1000001 : Int32)) ddX10_form_22 ckX10_81 ?_
    obtain ⟨v2, A3, hv, h⟩ := ruB2_inv h
    refine ru_callVi (as := [.int (-1000001 : Int32)]) (st := []) ddX10_form_24 cvX10_82 rfl (wX10_finding 2 (Nat.le_refl _) (-1000001 : Int32) A hv) rfl (Nat.le_trans (m := 4) (by decide) hd) (Nat.le_of_ble_eq_true rfl) ?_
    clear hv
    exact ru_iretW ddX10_form_27 rfl h
  · rw [if_neg hc] at h
    refine ru_iload_n ddX10_form_10 rfl ?_
    refine ru_iconst (0 : Int32) ddX10_form_11 rfl ?_
    refine ru_sipush (255 : Int32) ddX10_form_12 rfl ?_
    obtain ⟨v4, hv, h⟩ := ruB_inv h
    refine ru_callSi (as := [.int x2, .int (0 : Int32), .int (255 : Int32)]) (st := []) ddX10_form_15 csX10_77 (wX10_isWithin 1 (Nat.le_refl _) x2 (0 : Int32) (255 : Int32) A hv) rfl (Nat.le_trans (m := 4) (by decide) hd) (Nat.le_of_ble_eq_true rfl) ?_
    clear hv
    refine ru_if_ne 28 ddX10_form_18 (by decide) (fun hc => ?_) (fun hc => ?_)
    · rw [if_neg hc] at h
      refine ru_aload_n ddX10_form_28 rfl ?_
      refine ru_getR (r := 1) ddX10_form_29 flX10_12 rfl rfl ?_
      refine ru_getR (r := 29) ddX10_form_32 flX10_331 rfl rfl ?_
      refine ru_getI ddX10_form_35 flX10_335 rfl ?_
      refine ru_bipush (8 : Int32) ddX10_form_38 rfl ?_
      refine ru_icmp_lt 50 ddX10_form_40 (by decide) (fun hc => ?_) (fun hc => ?_)
      · rw [if_pos hc] at h
        refine ru_aload_n ddX10_form_50 rfl ?_
        refine ru_getR (r := 1) ddX10_form_51 flX10_12 rfl rfl ?_
        refine ru_getR (r := 29) ddX10_form_54 flX10_331 rfl rfl ?_
        refine ru_iload_n ddX10_form_57 rfl ?_
        refine ru_iload_n ddX10_form_58 rfl ?_
        obtain ⟨v5, A6, hv, h⟩ := ruB2_inv h
        refine ru_callVi (as := [.int x1, .int x2]) (st := []) ddX10_form_59 cvX10_338 rfl (wX1_made 3 (Nat.le_refl _) x1 x2 A hv) rfl (Nat.le_trans (m := 4) (by decide) hd) (Nat.le_of_ble_eq_true rfl) ?_
        clear hv
        exact ru_iretW ddX10_form_62 rfl h
      · rw [if_neg hc] at h
        refine ru_aload_n ddX10_form_43 rfl ?_
        refine ru_ldc (v := (-1000002 : Int32)) ddX10_form_44 ckX10_97 ?_
        obtain ⟨v7, A8, hv, h⟩ := ruB2_inv h
        refine ru_callVi (as := [.int (-1000002 : Int32)]) (st := []) ddX10_form_46 cvX10_82 rfl (wX10_finding 2 (Nat.le_refl _) (-1000002 : Int32) A hv) rfl (Nat.le_trans (m := 4) (by decide) hd) (Nat.le_of_ble_eq_true rfl) ?_
        clear hv
        exact ru_iretW ddX10_form_49 rfl h
    · rw [if_pos hc] at h
      refine ru_aload_n ddX10_form_21 rfl ?_
      refine ru_ldc (v := (-1000001 : Int32)) ddX10_form_22 ckX10_81 ?_
      obtain ⟨v9, A10, hv, h⟩ := ruB2_inv h
      refine ru_callVi (as := [.int (-1000001 : Int32)]) (st := []) ddX10_form_24 cvX10_82 rfl (wX10_finding 2 (Nat.le_refl _) (-1000001 : Int32) A hv) rfl (Nat.le_trans (m := 4) (by decide) hd) (Nat.le_of_ble_eq_true rfl) ?_
      clear hv
      exact ru_iretW ddX10_form_27 rfl h
theorem wX1_barredBy_l4 {E : ruE} {d : Nat} (hd : 2 ≤ d) {β : Type} {Q : Option Value → ruA → Prop} {res : β} (x1 : Int32) (A : ruA) {k35 : Int32 → Option (β)} (hk35 : ∀ (x2 : Int32), k35 x2 = some res → ruW E mmX1_barredBy d Q 35 [none, none, some (.int x2), none] [] A) : ∀ (n : Nat) (x2 : Int32) (x3 : Int32), fX1_barredBy_l4 x1 A k35 n x2 x3 = some res → ruW E mmX1_barredBy d Q 4 [some (rurf E 29), some (.int x1), some (.int x2), some (.int x3)] [] A := by
  intro n
  induction n with
  | zero =>
    intro x2 x3 h
    exact absurd h (by rw [fX1_barredBy_l4]; exact fun h => nomatch h)
  | succ n ih =>
    intro x2 x3 h
    rw [fX1_barredBy_l4] at h
    refine ru_iload_n ddX1_barredBy_4 rfl ?_
    refine ru_aload_n ddX1_barredBy_5 rfl ?_
    refine ru_getI ddX1_barredBy_6 flX1_18 rfl ?_
    refine ru_icmp_ge 35 ddX1_barredBy_9 (by decide) (fun hc => ?_) (fun hc => ?_)
    · rw [if_pos hc] at h
      refine ru_wk (L2 := [none, none, some (.int x2), none]) ⟨rfl, trivial⟩ ?_
      exact hk35 x2 h
    · rw [if_neg hc] at h
      refine ru_iload_n ddX1_barredBy_12 rfl ?_
      refine ru_iload_n ddX1_barredBy_13 rfl ?_
      obtain ⟨v1, hv, h⟩ := ruB_inv h
      refine ru_callNi (as := [.int x1, .int x3]) (st := []) ddX1_barredBy_14 cnX1_32 (wX10_has 1 (Nat.le_refl _) x1 x3 A hv) rfl (Nat.le_trans (m := 2) (by decide) hd) (Nat.le_of_ble_eq_true rfl) ?_
      clear hv
      obtain ⟨v2, hq, h⟩ := ruB_inv h
      have J : ruW E mmX1_barredBy d Q 29 [some (rurf E 29), some (.int x1), some (.int v2), some (.int x3)] [] A := by
          refine ru_iinc (x3 + (1 : Int32)) ddX1_barredBy_29 (by decide) rfl rfl rfl rfl ?_
          refine ru_goto 4 ddX1_barredBy_32 (by decide) ?_
          exact ih v2 (x3 + (1 : Int32)) h
      replace h := hq
      clear hq
      refine ru_if_eq 29 ddX1_barredBy_17 (by decide) (fun hc => ?_) (fun hc => ?_)
      · rw [if_pos hc] at h
        refine ru_wk (L2 := [some (rurf E 29), some (.int x1), some (.int x2), some (.int x3)]) ⟨rfl, rfl, rfl, rfl, trivial⟩ ?_
        obtain rfl := ruS1 h
        exact J
      · rw [if_neg hc] at h
        refine ru_iload_n ddX1_barredBy_20 rfl ?_
        refine ru_aload_n ddX1_barredBy_21 rfl ?_
        refine ru_getR (r := 31) ddX1_barredBy_22 flX1_15 rfl rfl ?_
        refine ru_iload_n ddX1_barredBy_25 rfl ?_
        obtain ⟨v3, hv, h⟩ := ruB_inv h
        refine ru_iald ddX1_barredBy_26 rfl hv ?_
        clear hv
        refine ru_ior ddX1_barredBy_27 ?_
        refine ru_istore_n ddX1_barredBy_28 (by decide) rfl rfl ?_
        refine ru_wk (L2 := [some (rurf E 29), some (.int x1), some (.int (x2 ||| v3)), some (.int x3)]) ⟨rfl, rfl, rfl, rfl, trivial⟩ ?_
        obtain rfl := ruS1 h
        exact J
theorem wX1_barredBy {E : ruE} (d : Nat) (hd : 2 ≤ d) (x1 : Int32) (A : ruA) {r : Int32} (h : fX1_barredBy x1 A = some r) : ruC E mmX1_barredBy d [rurf E 29, .int x1] A (ruPr r A) := by
  refine ruC.of (L := [some (rurf E 29), some (.int x1), none, none]) (by decide) rfl (Nat.le_of_ble_eq_true rfl) rfl ?_
  unfold fX1_barredBy at h
  refine ru_iconst (0 : Int32) ddX1_barredBy_0 rfl ?_
  refine ru_istore_n ddX1_barredBy_1 (by decide) rfl rfl ?_
  refine ru_iconst (0 : Int32) ddX1_barredBy_2 rfl ?_
  refine ru_istore_n ddX1_barredBy_3 (by decide) rfl rfl ?_
  exact wX1_barredBy_l4 hd x1 A (fun v4 h => by
        refine ru_iload_n ddX1_barredBy_35 rfl ?_
        exact ru_iretP ddX1_barredBy_36 rfl h) ruF (0 : Int32) (0 : Int32) h
theorem wX1_priceOf_l4 {E : ruE} {d : Nat} (hd : 2 ≤ d) {β : Type} {Q : Option Value → ruA → Prop} {res : β} (x1 : Int32) (A : ruA) {k35 : Int32 → Option (β)} (hk35 : ∀ (x2 : Int32), k35 x2 = some res → ruW E mmX1_priceOf d Q 35 [none, none, some (.int x2), none] [] A) : ∀ (n : Nat) (x2 : Int32) (x3 : Int32), fX1_priceOf_l4 x1 A k35 n x2 x3 = some res → ruW E mmX1_priceOf d Q 4 [some (rurf E 29), some (.int x1), some (.int x2), some (.int x3)] [] A := by
  intro n
  induction n with
  | zero =>
    intro x2 x3 h
    exact absurd h (by rw [fX1_priceOf_l4]; exact fun h => nomatch h)
  | succ n ih =>
    intro x2 x3 h
    rw [fX1_priceOf_l4] at h
    refine ru_iload_n ddX1_priceOf_4 rfl ?_
    refine ru_aload_n ddX1_priceOf_5 rfl ?_
    refine ru_getI ddX1_priceOf_6 flX1_18 rfl ?_
    refine ru_icmp_ge 35 ddX1_priceOf_9 (by decide) (fun hc => ?_) (fun hc => ?_)
    · rw [if_pos hc] at h
      refine ru_wk (L2 := [none, none, some (.int x2), none]) ⟨rfl, trivial⟩ ?_
      exact hk35 x2 h
    · rw [if_neg hc] at h
      refine ru_iload_n ddX1_priceOf_12 rfl ?_
      refine ru_iload_n ddX1_priceOf_13 rfl ?_
      obtain ⟨v1, hv, h⟩ := ruB_inv h
      refine ru_callNi (as := [.int x1, .int x3]) (st := []) ddX1_priceOf_14 cnX1_32 (wX10_has 1 (Nat.le_refl _) x1 x3 A hv) rfl (Nat.le_trans (m := 2) (by decide) hd) (Nat.le_of_ble_eq_true rfl) ?_
      clear hv
      obtain ⟨v2, hq, h⟩ := ruB_inv h
      have J : ruW E mmX1_priceOf d Q 29 [some (rurf E 29), some (.int x1), some (.int v2), some (.int x3)] [] A := by
          refine ru_iinc (x3 + (1 : Int32)) ddX1_priceOf_29 (by decide) rfl rfl rfl rfl ?_
          refine ru_goto 4 ddX1_priceOf_32 (by decide) ?_
          exact ih v2 (x3 + (1 : Int32)) h
      replace h := hq
      clear hq
      refine ru_if_eq 29 ddX1_priceOf_17 (by decide) (fun hc => ?_) (fun hc => ?_)
      · rw [if_pos hc] at h
        refine ru_wk (L2 := [some (rurf E 29), some (.int x1), some (.int x2), some (.int x3)]) ⟨rfl, rfl, rfl, rfl, trivial⟩ ?_
        obtain rfl := ruS1 h
        exact J
      · rw [if_neg hc] at h
        refine ru_iload_n ddX1_priceOf_20 rfl ?_
        refine ru_aload_n ddX1_priceOf_21 rfl ?_
        refine ru_getR (r := 30) ddX1_priceOf_22 flX1_9 rfl rfl ?_
        refine ru_iload_n ddX1_priceOf_25 rfl ?_
        obtain ⟨v3, hv, h⟩ := ruB_inv h
        refine ru_iald ddX1_priceOf_26 rfl hv ?_
        clear hv
        refine ru_iadd ddX1_priceOf_27 ?_
        refine ru_istore_n ddX1_priceOf_28 (by decide) rfl rfl ?_
        refine ru_wk (L2 := [some (rurf E 29), some (.int x1), some (.int (x2 + v3)), some (.int x3)]) ⟨rfl, rfl, rfl, rfl, trivial⟩ ?_
        obtain rfl := ruS1 h
        exact J
theorem wX1_priceOf {E : ruE} (d : Nat) (hd : 2 ≤ d) (x1 : Int32) (A : ruA) {r : Int32} (h : fX1_priceOf x1 A = some r) : ruC E mmX1_priceOf d [rurf E 29, .int x1] A (ruPr r A) := by
  refine ruC.of (L := [some (rurf E 29), some (.int x1), none, none]) (by decide) rfl (Nat.le_of_ble_eq_true rfl) rfl ?_
  unfold fX1_priceOf at h
  refine ru_iconst (0 : Int32) ddX1_priceOf_0 rfl ?_
  refine ru_istore_n ddX1_priceOf_1 (by decide) rfl rfl ?_
  refine ru_iconst (0 : Int32) ddX1_priceOf_2 rfl ?_
  refine ru_istore_n ddX1_priceOf_3 (by decide) rfl rfl ?_
  exact wX1_priceOf_l4 hd x1 A (fun v4 h => by
        refine ru_iload_n ddX1_priceOf_35 rfl ?_
        exact ru_iretP ddX1_priceOf_36 rfl h) ruF (0 : Int32) (0 : Int32) h
theorem wX1_isBetter {E : ruE} (d : Nat) (hd : 3 ≤ d) (x1 : Int32) (x2 : Int32) (A : ruA) {r : Int32} (h : fX1_isBetter x1 x2 A = some r) : ruC E mmX1_isBetter d [rurf E 29, .int x1, .int x2] A (ruPr r A) := by
  refine ruC.of (L := [some (rurf E 29), some (.int x1), some (.int x2), none, none]) (by decide) rfl (Nat.le_of_ble_eq_true rfl) rfl ?_
  unfold fX1_isBetter at h
  refine ru_aload_n ddX1_isBetter_0 rfl ?_
  refine ru_iload_n ddX1_isBetter_1 rfl ?_
  obtain ⟨v1, hv, h⟩ := ruB_inv h
  refine ru_callVi (as := [.int x1]) (st := []) ddX1_isBetter_2 cvX1_45 rfl (wX1_priceOf 2 (Nat.le_refl _) x1 A hv) rfl (Nat.le_trans (m := 3) (by decide) hd) (Nat.le_of_ble_eq_true rfl) ?_
  clear hv
  refine ru_istore_n ddX1_isBetter_5 (by decide) rfl rfl ?_
  refine ru_aload_n ddX1_isBetter_6 rfl ?_
  refine ru_iload_n ddX1_isBetter_7 rfl ?_
  obtain ⟨v2, hv, h⟩ := ruB_inv h
  refine ru_callVi (as := [.int x2]) (st := []) ddX1_isBetter_8 cvX1_45 rfl (wX1_priceOf 2 (Nat.le_refl _) x2 A hv) rfl (Nat.le_trans (m := 3) (by decide) hd) (Nat.le_of_ble_eq_true rfl) ?_
  clear hv
  refine ru_istore ddX1_isBetter_11 (by decide) rfl rfl ?_
  refine ru_iload_n ddX1_isBetter_13 rfl ?_
  refine ru_iload ddX1_isBetter_14 rfl ?_
  refine ru_icmp_lt 36 ddX1_isBetter_16 (by decide) (fun hc => ?_) (fun hc => ?_)
  · rw [if_pos hc] at h
    refine ru_iconst (1 : Int32) ddX1_isBetter_36 rfl ?_
    refine ru_goto 41 ddX1_isBetter_37 (by decide) ?_
    exact ru_zretP ddX1_isBetter_41 rfl (Or.inr rfl) h
  · rw [if_neg hc] at h
    refine ru_iload_n ddX1_isBetter_19 rfl ?_
    refine ru_iload ddX1_isBetter_20 rfl ?_
    refine ru_icmp_ne 40 ddX1_isBetter_22 (by decide) (fun hc => ?_) (fun hc => ?_)
    · rw [if_neg hc] at h
      refine ru_iconst (0 : Int32) ddX1_isBetter_40 rfl ?_
      exact ru_zretP ddX1_isBetter_41 rfl (Or.inl rfl) h
    · rw [if_pos hc] at h
      refine ru_iload_n ddX1_isBetter_25 rfl ?_
      obtain ⟨v3, hv, h⟩ := ruB_inv h
      refine ru_callSi (as := [.int x1]) (st := []) ddX1_isBetter_26 csX1_48 (wJ6_bitCount_0f7a4 1 (Nat.le_refl _) x1 A hv) rfl (Nat.le_trans (m := 3) (by decide) hd) (Nat.le_of_ble_eq_true rfl) ?_
      clear hv
      refine ru_iload_n ddX1_isBetter_29 rfl ?_
      obtain ⟨v4, hv, h⟩ := ruB_inv h
      refine ru_callSi (as := [.int x2]) (st := [.int v3]) ddX1_isBetter_30 csX1_48 (wJ6_bitCount_0f7a4 1 (Nat.le_refl _) x2 A hv) rfl (Nat.le_trans (m := 3) (by decide) hd) (Nat.le_of_ble_eq_true rfl) ?_
      clear hv
      refine ru_icmp_ge 40 ddX1_isBetter_33 (by decide) (fun hc => ?_) (fun hc => ?_)
      · rw [if_pos hc] at h
        refine ru_iconst (0 : Int32) ddX1_isBetter_40 rfl ?_
        exact ru_zretP ddX1_isBetter_41 rfl (Or.inl rfl) h
      · rw [if_neg hc] at h
        refine ru_iconst (1 : Int32) ddX1_isBetter_36 rfl ?_
        refine ru_goto 41 ddX1_isBetter_37 (by decide) ?_
        exact ru_zretP ddX1_isBetter_41 rfl (Or.inr rfl) h
theorem wX1_cheapestSet_l4 {E : ruE} {d : Nat} (hd : 4 ≤ d) {β : Type} {Q : Option Value → ruA → Prop} {res : β} (x1 : Int32) (A : ruA) {k47 : Int32 → Option (β)} (hk47 : ∀ (x2 : Int32), k47 x2 = some res → ruW E mmX1_cheapestSet d Q 47 [none, none, some (.int x2), none] [] A) : ∀ (n : Nat) (x2 : Int32) (x3 : Int32), fX1_cheapestSet_l4 x1 A k47 n x2 x3 = some res → ruW E mmX1_cheapestSet d Q 4 [some (rurf E 29), some (.int x1), some (.int x2), some (.int x3)] [] A := by
  intro n
  induction n with
  | zero =>
    intro x2 x3 h
    exact absurd h (by rw [fX1_cheapestSet_l4]; exact fun h => nomatch h)
  | succ n ih =>
    intro x2 x3 h
    rw [fX1_cheapestSet_l4] at h
    refine ru_iload_n ddX1_cheapestSet_4 rfl ?_
    refine ru_iconst (1 : Int32) ddX1_cheapestSet_5 rfl ?_
    refine ru_aload_n ddX1_cheapestSet_6 rfl ?_
    refine ru_getI ddX1_cheapestSet_7 flX1_18 rfl ?_
    refine ru_ishl ddX1_cheapestSet_10 ?_
    refine ru_icmp_ge 47 ddX1_cheapestSet_11 (by decide) (fun hc => ?_) (fun hc => ?_)
    · rw [if_pos hc] at h
      refine ru_wk (L2 := [none, none, some (.int x2), none]) ⟨rfl, trivial⟩ ?_
      exact hk47 x2 h
    · rw [if_neg hc] at h
      refine ru_iload_n ddX1_cheapestSet_14 rfl ?_
      refine ru_aload_n ddX1_cheapestSet_15 rfl ?_
      refine ru_iload_n ddX1_cheapestSet_16 rfl ?_
      obtain ⟨v1, hv, h⟩ := ruB_inv h
      refine ru_callVi (as := [.int x3]) (st := [.int x1]) ddX1_cheapestSet_17 cvX1_39 rfl (wX1_barredBy 2 (Nat.le_refl _) x3 A hv) rfl (Nat.le_trans (m := 4) (by decide) hd) (Nat.le_of_ble_eq_true rfl) ?_
      clear hv
      refine ru_iconst (-1 : Int32) ddX1_cheapestSet_20 rfl ?_
      refine ru_ixor ddX1_cheapestSet_21 ?_
      refine ru_iand ddX1_cheapestSet_22 ?_
      obtain ⟨v2, hq, h⟩ := ruB_inv h
      have J : ruW E mmX1_cheapestSet d Q 41 [some (rurf E 29), some (.int x1), some (.int v2), some (.int x3)] [] A := by
          refine ru_iinc (x3 + (1 : Int32)) ddX1_cheapestSet_41 (by decide) rfl rfl rfl rfl ?_
          refine ru_goto 4 ddX1_cheapestSet_44 (by decide) ?_
          exact ih v2 (x3 + (1 : Int32)) h
      replace h := hq
      clear hq
      refine ru_if_ne 41 ddX1_cheapestSet_23 (by decide) (fun hc => ?_) (fun hc => ?_)
      · rw [if_neg hc] at h
        refine ru_wk (L2 := [some (rurf E 29), some (.int x1), some (.int x2), some (.int x3)]) ⟨rfl, rfl, rfl, rfl, trivial⟩ ?_
        obtain rfl := ruS1 h
        exact J
      · rw [if_pos hc] at h
        refine ru_iload_n ddX1_cheapestSet_26 rfl ?_
        refine ru_if_lt 39 ddX1_cheapestSet_27 (by decide) (fun hc => ?_) (fun hc => ?_)
        · rw [if_pos hc] at h
          refine ru_iload_n ddX1_cheapestSet_39 rfl ?_
          refine ru_istore_n ddX1_cheapestSet_40 (by decide) rfl rfl ?_
          refine ru_wk (L2 := [some (rurf E 29), some (.int x1), some (.int x3), some (.int x3)]) ⟨rfl, rfl, rfl, rfl, trivial⟩ ?_
          obtain rfl := ruS1 h
          exact J
        · rw [if_neg hc] at h
          refine ru_aload_n ddX1_cheapestSet_30 rfl ?_
          refine ru_iload_n ddX1_cheapestSet_31 rfl ?_
          refine ru_iload_n ddX1_cheapestSet_32 rfl ?_
          obtain ⟨v3, hv, h⟩ := ruB_inv h
          refine ru_callVi (as := [.int x3, .int x2]) (st := []) ddX1_cheapestSet_33 cvX1_42 rfl (wX1_isBetter 3 (Nat.le_refl _) x3 x2 A hv) rfl (Nat.le_trans (m := 4) (by decide) hd) (Nat.le_of_ble_eq_true rfl) ?_
          clear hv
          refine ru_if_eq 41 ddX1_cheapestSet_36 (by decide) (fun hc => ?_) (fun hc => ?_)
          · rw [if_pos hc] at h
            refine ru_wk (L2 := [some (rurf E 29), some (.int x1), some (.int x2), some (.int x3)]) ⟨rfl, rfl, rfl, rfl, trivial⟩ ?_
            obtain rfl := ruS1 h
            exact J
          · rw [if_neg hc] at h
            refine ru_iload_n ddX1_cheapestSet_39 rfl ?_
            refine ru_istore_n ddX1_cheapestSet_40 (by decide) rfl rfl ?_
            refine ru_wk (L2 := [some (rurf E 29), some (.int x1), some (.int x3), some (.int x3)]) ⟨rfl, rfl, rfl, rfl, trivial⟩ ?_
            obtain rfl := ruS1 h
            exact J
theorem wX1_cheapestSet {E : ruE} (d : Nat) (hd : 4 ≤ d) (x1 : Int32) (A : ruA) {r : Int32} (h : fX1_cheapestSet x1 A = some r) : ruC E mmX1_cheapestSet d [rurf E 29, .int x1] A (ruPr r A) := by
  refine ruC.of (L := [some (rurf E 29), some (.int x1), none, none]) (by decide) rfl (Nat.le_of_ble_eq_true rfl) rfl ?_
  unfold fX1_cheapestSet at h
  refine ru_iconst (-1 : Int32) ddX1_cheapestSet_0 rfl ?_
  refine ru_istore_n ddX1_cheapestSet_1 (by decide) rfl rfl ?_
  refine ru_iconst (0 : Int32) ddX1_cheapestSet_2 rfl ?_
  refine ru_istore_n ddX1_cheapestSet_3 (by decide) rfl rfl ?_
  exact wX1_cheapestSet_l4 hd x1 A (fun v4 h => by
        refine ru_iload_n ddX1_cheapestSet_47 rfl ?_
        exact ru_iretP ddX1_cheapestSet_48 rfl h) ruF (-1 : Int32) (0 : Int32) h
theorem wX10_cheapest {E : ruE} (d : Nat) (hd : 5 ≤ d) (x1 : Int32) (x2 : Int32) (A : ruA) {r : Int32} {B : ruA} (h : fX10_cheapest x1 x2 A = some (r, B)) : ruC E mmX10_cheapest d [rurf E 0, .int x1, .int x2] A (ruPr r B) := by
  refine ruC.of (L := [some (rurf E 0), some (.int x1), some (.int x2), none]) (by decide) rfl (Nat.le_of_ble_eq_true rfl) rfl ?_
  unfold fX10_cheapest at h
  refine ru_iload_n ddX10_cheapest_0 rfl ?_
  refine ru_iconst (0 : Int32) ddX10_cheapest_1 rfl ?_
  refine ru_sipush (255 : Int32) ddX10_cheapest_2 rfl ?_
  obtain ⟨v1, hv, h⟩ := ruB_inv h
  refine ru_callSi (as := [.int x1, .int (0 : Int32), .int (255 : Int32)]) (st := []) ddX10_cheapest_5 csX10_77 (wX10_isWithin 1 (Nat.le_refl _) x1 (0 : Int32) (255 : Int32) A hv) rfl (Nat.le_trans (m := 5) (by decide) hd) (Nat.le_of_ble_eq_true rfl) ?_
  clear hv
  refine ru_if_eq 20 ddX10_cheapest_8 (by decide) (fun hc => ?_) (fun hc => ?_)
  · rw [if_pos hc] at h
    refine ru_aload_n ddX10_cheapest_20 rfl ?_
    refine ru_ldc (v := (-1000001 : Int32)) ddX10_cheapest_21 ckX10_81 ?_
    obtain ⟨v2, A3, hv, h⟩ := ruB2_inv h
    refine ru_callVi (as := [.int (-1000001 : Int32)]) (st := []) ddX10_cheapest_23 cvX10_82 rfl (wX10_finding 2 (Nat.le_refl _) (-1000001 : Int32) A hv) rfl (Nat.le_trans (m := 5) (by decide) hd) (Nat.le_of_ble_eq_true rfl) ?_
    clear hv
    exact ru_iretW ddX10_cheapest_26 rfl h
  · rw [if_neg hc] at h
    refine ru_iload_n ddX10_cheapest_11 rfl ?_
    refine ru_iconst (0 : Int32) ddX10_cheapest_12 rfl ?_
    refine ru_iconst (1 : Int32) ddX10_cheapest_13 rfl ?_
    obtain ⟨v4, hv, h⟩ := ruB_inv h
    refine ru_callSi (as := [.int x2, .int (0 : Int32), .int (1 : Int32)]) (st := []) ddX10_cheapest_14 csX10_77 (wX10_isWithin 1 (Nat.le_refl _) x2 (0 : Int32) (1 : Int32) A hv) rfl (Nat.le_trans (m := 5) (by decide) hd) (Nat.le_of_ble_eq_true rfl) ?_
    clear hv
    refine ru_if_ne 27 ddX10_cheapest_17 (by decide) (fun hc => ?_) (fun hc => ?_)
    · rw [if_neg hc] at h
      refine ru_aload_n ddX10_cheapest_27 rfl ?_
      refine ru_getR (r := 1) ddX10_cheapest_28 flX10_12 rfl rfl ?_
      refine ru_getR (r := 29) ddX10_cheapest_31 flX10_331 rfl rfl ?_
      refine ru_iload_n ddX10_cheapest_34 rfl ?_
      obtain ⟨v5, hv, h⟩ := ruB_inv h
      refine ru_callVi (as := [.int x1]) (st := []) ddX10_cheapest_35 cvX10_341 rfl (wX1_cheapestSet 4 (Nat.le_refl _) x1 A hv) rfl (Nat.le_trans (m := 5) (by decide) hd) (Nat.le_of_ble_eq_true rfl) ?_
      clear hv
      refine ru_istore_n ddX10_cheapest_38 (by decide) rfl rfl ?_
      refine ru_iload_n ddX10_cheapest_39 rfl ?_
      refine ru_if_ge 50 ddX10_cheapest_40 (by decide) (fun hc => ?_) (fun hc => ?_)
      · rw [if_pos hc] at h
        refine ru_iload_n ddX10_cheapest_50 rfl ?_
        refine ru_if_ne 68 ddX10_cheapest_51 (by decide) (fun hc => ?_) (fun hc => ?_)
        · rw [if_neg hc] at h
          refine ru_iload_n ddX10_cheapest_68 rfl ?_
          exact ru_iretW ddX10_cheapest_69 rfl h
        · rw [if_pos hc] at h
          refine ru_aload_n ddX10_cheapest_54 rfl ?_
          refine ru_getR (r := 1) ddX10_cheapest_55 flX10_12 rfl rfl ?_
          refine ru_getR (r := 29) ddX10_cheapest_58 flX10_331 rfl rfl ?_
          refine ru_iload_n ddX10_cheapest_61 rfl ?_
          obtain ⟨v6, hv, h⟩ := ruB_inv h
          refine ru_callVi (as := [.int v5]) (st := []) ddX10_cheapest_62 cvX10_344 rfl (wX1_priceOf 2 (Nat.le_refl _) v5 A hv) rfl (Nat.le_trans (m := 5) (by decide) hd) (Nat.le_of_ble_eq_true rfl) ?_
          clear hv
          refine ru_goto 69 ddX10_cheapest_65 (by decide) ?_
          exact ru_iretW ddX10_cheapest_69 rfl h
      · rw [if_neg hc] at h
        refine ru_aload_n ddX10_cheapest_43 rfl ?_
        refine ru_ldc (v := (-1000004 : Int32)) ddX10_cheapest_44 ckX10_202 ?_
        obtain ⟨v7, A8, hv, h⟩ := ruB2_inv h
        refine ru_callVi (as := [.int (-1000004 : Int32)]) (st := []) ddX10_cheapest_46 cvX10_82 rfl (wX10_finding 2 (Nat.le_refl _) (-1000004 : Int32) A hv) rfl (Nat.le_trans (m := 5) (by decide) hd) (Nat.le_of_ble_eq_true rfl) ?_
        clear hv
        exact ru_iretW ddX10_cheapest_49 rfl h
    · rw [if_pos hc] at h
      refine ru_aload_n ddX10_cheapest_20 rfl ?_
      refine ru_ldc (v := (-1000001 : Int32)) ddX10_cheapest_21 ckX10_81 ?_
      obtain ⟨v9, A10, hv, h⟩ := ruB2_inv h
      refine ru_callVi (as := [.int (-1000001 : Int32)]) (st := []) ddX10_cheapest_23 cvX10_82 rfl (wX10_finding 2 (Nat.le_refl _) (-1000001 : Int32) A hv) rfl (Nat.le_trans (m := 5) (by decide) hd) (Nat.le_of_ble_eq_true rfl) ?_
      clear hv
      exact ru_iretW ddX10_cheapest_26 rfl h
theorem wX7_renewed {E : ruE} (d : Nat) (hd : 2 ≤ d) (x0 : Nat) (x1 : Int32) (x2 : Int32) (A : ruA) {r : Int32} {B : ruA} (h : fX7_renewed x0 x1 x2 A = some (r, B)) : ruC E mmX7_renewed d [rurf E x0, .int x1, .int x2] A (ruPr r B) := by
  refine ruC.of (L := [some (rurf E x0), some (.int x1), some (.int x2)]) (by decide) rfl (Nat.le_of_ble_eq_true rfl) rfl ?_
  unfold fX7_renewed at h
  refine ru_aload_n ddX7_renewed_0 rfl ?_
  refine ru_iload_n ddX7_renewed_1 rfl ?_
  obtain ⟨_, ho1, h⟩ := ruB_inv h
  obtain ⟨A2, hv, h⟩ := ruB_inv h
  refine ru_putI2 ddX7_renewed_2 flX7_15 fp7_0 (rudO_eq ho1) hv ?_
  clear hv
  refine ru_aload_n ddX7_renewed_5 rfl ?_
  refine ru_iload_n ddX7_renewed_6 rfl ?_
  obtain ⟨v3, hq, h⟩ := ruB_inv h
  have J : ruW E mmX7_renewed d (ruPr r B) 15 [some (rurf E x0), none, none] [.int v3, rurf E x0] A2 := by
      obtain ⟨A4, hv, h⟩ := ruB_inv h
      refine ru_putI2 ddX7_renewed_15 flX7_19 fp7_1 (rudO_eq ho1) hv ?_
      clear hv
      refine ru_aload_n ddX7_renewed_18 rfl ?_
      obtain ⟨c5, hv, h⟩ := ruB_inv h
      refine ru_getR ddX7_renewed_19 flX7_9 (rudO_eq ho1) hv ?_
      clear hv
      refine ru_iconst (0 : Int32) ddX7_renewed_22 rfl ?_
      obtain ⟨A6, hv, h⟩ := ruB_inv h
      refine ru_callSv (as := [rurf E c5, .int (0 : Int32)]) (st := []) ddX7_renewed_23 csX7_22 (wJ7_fill_53178 1 (Nat.le_refl _) c5 (0 : Int32) A4 hv) rfl (Nat.le_trans (m := 2) (by decide) hd) (Nat.le_of_ble_eq_true rfl) ?_
      clear hv
      refine ru_aload_n ddX7_renewed_26 rfl ?_
      refine ru_getI ddX7_renewed_27 flX7_19 (rudO_eq ho1) ?_
      exact ru_iretW ddX7_renewed_30 rfl h
  replace h := hq
  clear hq
  refine ru_if_ne 14 ddX7_renewed_7 (by decide) (fun hc => ?_) (fun hc => ?_)
  · rw [if_neg hc] at h
    refine ru_iload_n ddX7_renewed_14 rfl ?_
    refine ru_wk (L2 := [some (rurf E x0), none, none]) ⟨rfl, trivial⟩ ?_
    obtain rfl := ruS1 h
    exact J
  · rw [if_pos hc] at h
    refine ru_iconst (0 : Int32) ddX7_renewed_10 rfl ?_
    refine ru_goto 15 ddX7_renewed_11 (by decide) ?_
    refine ru_wk (L2 := [some (rurf E x0), none, none]) ⟨rfl, trivial⟩ ?_
    obtain rfl := ruS1 h
    exact J
theorem wX10_slip {E : ruE} (d : Nat) (hd : 3 ≤ d) (x1 : Int32) (x2 : Int32) (x3 : Int32) (A : ruA) {r : Int32} {B : ruA} (h : fX10_slip x1 x2 x3 A = some (r, B)) : ruC E mmX10_slip d [rurf E 0, .int x1, .int x2, .int x3] A (ruPr r B) := by
  refine ruC.of (L := [some (rurf E 0), some (.int x1), some (.int x2), some (.int x3)]) (by decide) rfl (Nat.le_of_ble_eq_true rfl) rfl ?_
  unfold fX10_slip at h
  refine ru_iload_n ddX10_slip_0 rfl ?_
  obtain ⟨v1, hv, h⟩ := ruB_inv h
  refine ru_callSi (as := [.int x1]) (st := []) ddX10_slip_1 csX10_162 (wX10_isSlip 2 (Nat.le_refl _) x1 A hv) rfl (Nat.le_trans (m := 3) (by decide) hd) (Nat.le_of_ble_eq_true rfl) ?_
  clear hv
  refine ru_if_eq 29 ddX10_slip_4 (by decide) (fun hc => ?_) (fun hc => ?_)
  · rw [if_pos hc] at h
    refine ru_aload_n ddX10_slip_29 rfl ?_
    refine ru_ldc (v := (-1000001 : Int32)) ddX10_slip_30 ckX10_81 ?_
    obtain ⟨v2, A3, hv, h⟩ := ruB2_inv h
    refine ru_callVi (as := [.int (-1000001 : Int32)]) (st := []) ddX10_slip_32 cvX10_82 rfl (wX10_finding 2 (Nat.le_refl _) (-1000001 : Int32) A hv) rfl (Nat.le_trans (m := 3) (by decide) hd) (Nat.le_of_ble_eq_true rfl) ?_
    clear hv
    exact ru_iretW ddX10_slip_35 rfl h
  · rw [if_neg hc] at h
    refine ru_iload_n ddX10_slip_7 rfl ?_
    refine ru_if_eq 36 ddX10_slip_8 (by decide) (fun hc => ?_) (fun hc => ?_)
    · rw [if_pos hc] at h
      refine ru_iload_n ddX10_slip_36 rfl ?_
      refine ru_if_ge 47 ddX10_slip_37 (by decide) (fun hc => ?_) (fun hc => ?_)
      · rw [if_pos hc] at h
        refine ru_iload_n ddX10_slip_47 rfl ?_
        refine ru_bipush (24 : Int32) ddX10_slip_48 rfl ?_
        refine ru_icmp_le 60 ddX10_slip_50 (by decide) (fun hc => ?_) (fun hc => ?_)
        · rw [if_pos hc] at h
          refine ru_aload_n ddX10_slip_60 rfl ?_
          refine ru_getR (r := 73) ddX10_slip_61 flX10_62 rfl rfl ?_
          refine ru_iload_n ddX10_slip_64 rfl ?_
          obtain ⟨c4, hv, h⟩ := ruB_inv h
          refine ru_aald3 ddX10_slip_65 rfl hv ?_
          clear hv
          refine ru_iload_n ddX10_slip_66 rfl ?_
          refine ru_iload_n ddX10_slip_67 rfl ?_
          obtain ⟨_, ho5, h⟩ := ruB_inv h
          obtain ⟨v6, A7, hv, h⟩ := ruB2_inv h
          refine ru_callVi (as := [.int x2, .int x3]) (st := []) ddX10_slip_68 cvX10_347 (rudO_eq ho5) (wX7_renewed 2 (Nat.le_refl _) c4 x2 x3 A hv) rfl (Nat.le_trans (m := 3) (by decide) hd) (Nat.le_of_ble_eq_true rfl) ?_
          clear hv
          exact ru_iretW ddX10_slip_71 rfl h
        · rw [if_neg hc] at h
          refine ru_aload_n ddX10_slip_53 rfl ?_
          refine ru_ldc (v := (-1000001 : Int32)) ddX10_slip_54 ckX10_81 ?_
          obtain ⟨v8, A9, hv, h⟩ := ruB2_inv h
          refine ru_callVi (as := [.int (-1000001 : Int32)]) (st := []) ddX10_slip_56 cvX10_82 rfl (wX10_finding 2 (Nat.le_refl _) (-1000001 : Int32) A hv) rfl (Nat.le_trans (m := 3) (by decide) hd) (Nat.le_of_ble_eq_true rfl) ?_
          clear hv
          exact ru_iretW ddX10_slip_59 rfl h
      · rw [if_neg hc] at h
        refine ru_aload_n ddX10_slip_40 rfl ?_
        refine ru_ldc (v := (-1000007 : Int32)) ddX10_slip_41 ckX10_173 ?_
        obtain ⟨v10, A11, hv, h⟩ := ruB2_inv h
        refine ru_callVi (as := [.int (-1000007 : Int32)]) (st := []) ddX10_slip_43 cvX10_82 rfl (wX10_finding 2 (Nat.le_refl _) (-1000007 : Int32) A hv) rfl (Nat.le_trans (m := 3) (by decide) hd) (Nat.le_of_ble_eq_true rfl) ?_
        clear hv
        exact ru_iretW ddX10_slip_46 rfl h
    · rw [if_neg hc] at h
      refine ru_iload_n ddX10_slip_11 rfl ?_
      refine ru_bipush (8 : Int32) ddX10_slip_12 rfl ?_
      refine ru_icmp_eq 36 ddX10_slip_14 (by decide) (fun hc => ?_) (fun hc => ?_)
      · rw [if_pos hc] at h
        refine ru_iload_n ddX10_slip_36 rfl ?_
        refine ru_if_ge 47 ddX10_slip_37 (by decide) (fun hc => ?_) (fun hc => ?_)
        · rw [if_pos hc] at h
          refine ru_iload_n ddX10_slip_47 rfl ?_
          refine ru_bipush (24 : Int32) ddX10_slip_48 rfl ?_
          refine ru_icmp_le 60 ddX10_slip_50 (by decide) (fun hc => ?_) (fun hc => ?_)
          · rw [if_pos hc] at h
            refine ru_aload_n ddX10_slip_60 rfl ?_
            refine ru_getR (r := 73) ddX10_slip_61 flX10_62 rfl rfl ?_
            refine ru_iload_n ddX10_slip_64 rfl ?_
            obtain ⟨c12, hv, h⟩ := ruB_inv h
            refine ru_aald3 ddX10_slip_65 rfl hv ?_
            clear hv
            refine ru_iload_n ddX10_slip_66 rfl ?_
            refine ru_iload_n ddX10_slip_67 rfl ?_
            obtain ⟨_, ho13, h⟩ := ruB_inv h
            obtain ⟨v14, A15, hv, h⟩ := ruB2_inv h
            refine ru_callVi (as := [.int x2, .int x3]) (st := []) ddX10_slip_68 cvX10_347 (rudO_eq ho13) (wX7_renewed 2 (Nat.le_refl _) c12 x2 x3 A hv) rfl (Nat.le_trans (m := 3) (by decide) hd) (Nat.le_of_ble_eq_true rfl) ?_
            clear hv
            exact ru_iretW ddX10_slip_71 rfl h
          · rw [if_neg hc] at h
            refine ru_aload_n ddX10_slip_53 rfl ?_
            refine ru_ldc (v := (-1000001 : Int32)) ddX10_slip_54 ckX10_81 ?_
            obtain ⟨v16, A17, hv, h⟩ := ruB2_inv h
            refine ru_callVi (as := [.int (-1000001 : Int32)]) (st := []) ddX10_slip_56 cvX10_82 rfl (wX10_finding 2 (Nat.le_refl _) (-1000001 : Int32) A hv) rfl (Nat.le_trans (m := 3) (by decide) hd) (Nat.le_of_ble_eq_true rfl) ?_
            clear hv
            exact ru_iretW ddX10_slip_59 rfl h
        · rw [if_neg hc] at h
          refine ru_aload_n ddX10_slip_40 rfl ?_
          refine ru_ldc (v := (-1000007 : Int32)) ddX10_slip_41 ckX10_173 ?_
          obtain ⟨v18, A19, hv, h⟩ := ruB2_inv h
          refine ru_callVi (as := [.int (-1000007 : Int32)]) (st := []) ddX10_slip_43 cvX10_82 rfl (wX10_finding 2 (Nat.le_refl _) (-1000007 : Int32) A hv) rfl (Nat.le_trans (m := 3) (by decide) hd) (Nat.le_of_ble_eq_true rfl) ?_
          clear hv
          exact ru_iretW ddX10_slip_46 rfl h
      · rw [if_neg hc] at h
        refine ru_iload_n ddX10_slip_17 rfl ?_
        refine ru_bipush (16 : Int32) ddX10_slip_18 rfl ?_
        refine ru_icmp_eq 36 ddX10_slip_20 (by decide) (fun hc => ?_) (fun hc => ?_)
        · rw [if_pos hc] at h
          refine ru_iload_n ddX10_slip_36 rfl ?_
          refine ru_if_ge 47 ddX10_slip_37 (by decide) (fun hc => ?_) (fun hc => ?_)
          · rw [if_pos hc] at h
            refine ru_iload_n ddX10_slip_47 rfl ?_
            refine ru_bipush (24 : Int32) ddX10_slip_48 rfl ?_
            refine ru_icmp_le 60 ddX10_slip_50 (by decide) (fun hc => ?_) (fun hc => ?_)
            · rw [if_pos hc] at h
              refine ru_aload_n ddX10_slip_60 rfl ?_
              refine ru_getR (r := 73) ddX10_slip_61 flX10_62 rfl rfl ?_
              refine ru_iload_n ddX10_slip_64 rfl ?_
              obtain ⟨c20, hv, h⟩ := ruB_inv h
              refine ru_aald3 ddX10_slip_65 rfl hv ?_
              clear hv
              refine ru_iload_n ddX10_slip_66 rfl ?_
              refine ru_iload_n ddX10_slip_67 rfl ?_
              obtain ⟨_, ho21, h⟩ := ruB_inv h
              obtain ⟨v22, A23, hv, h⟩ := ruB2_inv h
              refine ru_callVi (as := [.int x2, .int x3]) (st := []) ddX10_slip_68 cvX10_347 (rudO_eq ho21) (wX7_renewed 2 (Nat.le_refl _) c20 x2 x3 A hv) rfl (Nat.le_trans (m := 3) (by decide) hd) (Nat.le_of_ble_eq_true rfl) ?_
              clear hv
              exact ru_iretW ddX10_slip_71 rfl h
            · rw [if_neg hc] at h
              refine ru_aload_n ddX10_slip_53 rfl ?_
              refine ru_ldc (v := (-1000001 : Int32)) ddX10_slip_54 ckX10_81 ?_
              obtain ⟨v24, A25, hv, h⟩ := ruB2_inv h
              refine ru_callVi (as := [.int (-1000001 : Int32)]) (st := []) ddX10_slip_56 cvX10_82 rfl (wX10_finding 2 (Nat.le_refl _) (-1000001 : Int32) A hv) rfl (Nat.le_trans (m := 3) (by decide) hd) (Nat.le_of_ble_eq_true rfl) ?_
              clear hv
              exact ru_iretW ddX10_slip_59 rfl h
          · rw [if_neg hc] at h
            refine ru_aload_n ddX10_slip_40 rfl ?_
            refine ru_ldc (v := (-1000007 : Int32)) ddX10_slip_41 ckX10_173 ?_
            obtain ⟨v26, A27, hv, h⟩ := ruB2_inv h
            refine ru_callVi (as := [.int (-1000007 : Int32)]) (st := []) ddX10_slip_43 cvX10_82 rfl (wX10_finding 2 (Nat.le_refl _) (-1000007 : Int32) A hv) rfl (Nat.le_trans (m := 3) (by decide) hd) (Nat.le_of_ble_eq_true rfl) ?_
            clear hv
            exact ru_iretW ddX10_slip_46 rfl h
        · rw [if_neg hc] at h
          refine ru_iload_n ddX10_slip_23 rfl ?_
          refine ru_bipush (32 : Int32) ddX10_slip_24 rfl ?_
          refine ru_icmp_eq 36 ddX10_slip_26 (by decide) (fun hc => ?_) (fun hc => ?_)
          · rw [if_pos hc] at h
            refine ru_iload_n ddX10_slip_36 rfl ?_
            refine ru_if_ge 47 ddX10_slip_37 (by decide) (fun hc => ?_) (fun hc => ?_)
            · rw [if_pos hc] at h
              refine ru_iload_n ddX10_slip_47 rfl ?_
              refine ru_bipush (24 : Int32) ddX10_slip_48 rfl ?_
              refine ru_icmp_le 60 ddX10_slip_50 (by decide) (fun hc => ?_) (fun hc => ?_)
              · rw [if_pos hc] at h
                refine ru_aload_n ddX10_slip_60 rfl ?_
                refine ru_getR (r := 73) ddX10_slip_61 flX10_62 rfl rfl ?_
                refine ru_iload_n ddX10_slip_64 rfl ?_
                obtain ⟨c28, hv, h⟩ := ruB_inv h
                refine ru_aald3 ddX10_slip_65 rfl hv ?_
                clear hv
                refine ru_iload_n ddX10_slip_66 rfl ?_
                refine ru_iload_n ddX10_slip_67 rfl ?_
                obtain ⟨_, ho29, h⟩ := ruB_inv h
                obtain ⟨v30, A31, hv, h⟩ := ruB2_inv h
                refine ru_callVi (as := [.int x2, .int x3]) (st := []) ddX10_slip_68 cvX10_347 (rudO_eq ho29) (wX7_renewed 2 (Nat.le_refl _) c28 x2 x3 A hv) rfl (Nat.le_trans (m := 3) (by decide) hd) (Nat.le_of_ble_eq_true rfl) ?_
                clear hv
                exact ru_iretW ddX10_slip_71 rfl h
              · rw [if_neg hc] at h
                refine ru_aload_n ddX10_slip_53 rfl ?_
                refine ru_ldc (v := (-1000001 : Int32)) ddX10_slip_54 ckX10_81 ?_
                obtain ⟨v32, A33, hv, h⟩ := ruB2_inv h
                refine ru_callVi (as := [.int (-1000001 : Int32)]) (st := []) ddX10_slip_56 cvX10_82 rfl (wX10_finding 2 (Nat.le_refl _) (-1000001 : Int32) A hv) rfl (Nat.le_trans (m := 3) (by decide) hd) (Nat.le_of_ble_eq_true rfl) ?_
                clear hv
                exact ru_iretW ddX10_slip_59 rfl h
            · rw [if_neg hc] at h
              refine ru_aload_n ddX10_slip_40 rfl ?_
              refine ru_ldc (v := (-1000007 : Int32)) ddX10_slip_41 ckX10_173 ?_
              obtain ⟨v34, A35, hv, h⟩ := ruB2_inv h
              refine ru_callVi (as := [.int (-1000007 : Int32)]) (st := []) ddX10_slip_43 cvX10_82 rfl (wX10_finding 2 (Nat.le_refl _) (-1000007 : Int32) A hv) rfl (Nat.le_trans (m := 3) (by decide) hd) (Nat.le_of_ble_eq_true rfl) ?_
              clear hv
              exact ru_iretW ddX10_slip_46 rfl h
          · rw [if_neg hc] at h
            refine ru_aload_n ddX10_slip_29 rfl ?_
            refine ru_ldc (v := (-1000001 : Int32)) ddX10_slip_30 ckX10_81 ?_
            obtain ⟨v36, A37, hv, h⟩ := ruB2_inv h
            refine ru_callVi (as := [.int (-1000001 : Int32)]) (st := []) ddX10_slip_32 cvX10_82 rfl (wX10_finding 2 (Nat.le_refl _) (-1000001 : Int32) A hv) rfl (Nat.le_trans (m := 3) (by decide) hd) (Nat.le_of_ble_eq_true rfl) ?_
            clear hv
            exact ru_iretW ddX10_slip_35 rfl h
theorem wX7_lowestBits {E : ruE} (d : Nat) (hd : 1 ≤ d) (x0 : Nat) (x1 : Int32) (A : ruA) {r : Int32} (h : fX7_lowestBits x0 x1 A = some r) : ruC E mmX7_lowestBits d [rurf E x0, .int x1] A (ruPr r A) := by
  refine ruC.of (L := [some (rurf E x0), some (.int x1)]) (by decide) rfl (Nat.le_of_ble_eq_true rfl) rfl ?_
  unfold fX7_lowestBits at h
  refine ru_aload_n ddX7_lowestBits_0 rfl ?_
  obtain ⟨_, ho1, h⟩ := ruB_inv h
  refine ru_getI ddX7_lowestBits_1 flX7_15 (rudO_eq ho1) ?_
  refine ru_bipush (8 : Int32) ddX7_lowestBits_4 rfl ?_
  refine ru_icmp_ne 12 ddX7_lowestBits_6 (by decide) (fun hc => ?_) (fun hc => ?_)
  · rw [if_neg hc] at h
    refine ru_aload_n ddX7_lowestBits_12 rfl ?_
    refine ru_getI ddX7_lowestBits_13 flX7_15 (rudO_eq ho1) ?_
    refine ru_bipush (16 : Int32) ddX7_lowestBits_16 rfl ?_
    refine ru_icmp_ne 26 ddX7_lowestBits_18 (by decide) (fun hc => ?_) (fun hc => ?_)
    · rw [if_neg hc] at h
      refine ru_iload_n ddX7_lowestBits_26 rfl ?_
      exact ru_iretP ddX7_lowestBits_27 rfl h
    · rw [if_pos hc] at h
      refine ru_iload_n ddX7_lowestBits_21 rfl ?_
      refine ru_i2s ddX7_lowestBits_22 ?_
      refine ru_goto 27 ddX7_lowestBits_23 (by decide) ?_
      exact ru_iretP ddX7_lowestBits_27 rfl h
  · rw [if_pos hc] at h
    refine ru_iload_n ddX7_lowestBits_9 rfl ?_
    refine ru_i2b ddX7_lowestBits_10 ?_
    exact ru_iretP ddX7_lowestBits_11 rfl h
theorem wX10_write {E : ruE} (d : Nat) (hd : 3 ≤ d) (x1 : Int32) (x2 : Int32) (x3 : Int32) (A : ruA) {r : Int32} {B : ruA} (h : fX10_write x1 x2 x3 A = some (r, B)) : ruC E mmX10_write d [rurf E 0, .int x1, .int x2, .int x3] A (ruPr r B) := by
  refine ruC.of (L := [some (rurf E 0), some (.int x1), some (.int x2), some (.int x3), none]) (by decide) rfl (Nat.le_of_ble_eq_true rfl) rfl ?_
  unfold fX10_write at h
  refine ru_iload_n ddX10_write_0 rfl ?_
  obtain ⟨v1, hv, h⟩ := ruB_inv h
  refine ru_callSi (as := [.int x1]) (st := []) ddX10_write_1 csX10_162 (wX10_isSlip 2 (Nat.le_refl _) x1 A hv) rfl (Nat.le_trans (m := 3) (by decide) hd) (Nat.le_of_ble_eq_true rfl) ?_
  clear hv
  refine ru_if_ne 14 ddX10_write_4 (by decide) (fun hc => ?_) (fun hc => ?_)
  · rw [if_neg hc] at h
    refine ru_aload_n ddX10_write_14 rfl ?_
    refine ru_getR (r := 73) ddX10_write_15 flX10_62 rfl rfl ?_
    refine ru_iload_n ddX10_write_18 rfl ?_
    obtain ⟨c2, hv, h⟩ := ruB_inv h
    refine ru_aald3 ddX10_write_19 rfl hv ?_
    clear hv
    refine ru_astore ddX10_write_20 (by decide) rfl rfl ?_
    refine ru_aload ddX10_write_22 rfl ?_
    obtain ⟨_, ho3, h⟩ := ruB_inv h
    obtain ⟨v4, hv, h⟩ := ruB_inv h
    refine ru_callVi (as := []) (st := []) ddX10_write_24 cvX10_165 (rudO_eq ho3) (wX7_isMissing 1 (Nat.le_refl _) c2 A hv) rfl (Nat.le_trans (m := 3) (by decide) hd) (Nat.le_of_ble_eq_true rfl) ?_
    clear hv
    refine ru_if_eq 37 ddX10_write_27 (by decide) (fun hc => ?_) (fun hc => ?_)
    · rw [if_pos hc] at h
      refine ru_iload_n ddX10_write_37 rfl ?_
      refine ru_iconst (0 : Int32) ddX10_write_38 rfl ?_
      refine ru_aload ddX10_write_39 rfl ?_
      refine ru_getI ddX10_write_41 flX10_170 (rudO_eq ho3) ?_
      refine ru_iconst (1 : Int32) ddX10_write_44 rfl ?_
      refine ru_isub ddX10_write_45 ?_
      obtain ⟨v5, hv, h⟩ := ruB_inv h
      refine ru_callSi (as := [.int x2, .int (0 : Int32), .int ((A.1 c2 1) - (1 : Int32))]) (st := []) ddX10_write_46 csX10_77 (wX10_isWithin 1 (Nat.le_refl _) x2 (0 : Int32) ((A.1 c2 1) - (1 : Int32)) A hv) rfl (Nat.le_trans (m := 3) (by decide) hd) (Nat.le_of_ble_eq_true rfl) ?_
      clear hv
      refine ru_if_ne 59 ddX10_write_49 (by decide) (fun hc => ?_) (fun hc => ?_)
      · rw [if_neg hc] at h
        refine ru_aload ddX10_write_59 rfl ?_
        obtain ⟨c6, hv, h⟩ := ruB_inv h
        refine ru_getR ddX10_write_61 flX10_177 (rudO_eq ho3) hv ?_
        clear hv
        refine ru_iload_n ddX10_write_64 rfl ?_
        refine ru_aload ddX10_write_65 rfl ?_
        refine ru_iload_n ddX10_write_67 rfl ?_
        obtain ⟨v7, hv, h⟩ := ruB_inv h
        refine ru_callVi (as := [.int x3]) (st := [.int x2, rurf E c6]) ddX10_write_68 cvX10_350 (rudO_eq ho3) (wX7_lowestBits 1 (Nat.le_refl _) c2 x3 A hv) rfl (Nat.le_trans (m := 3) (by decide) hd) (Nat.le_of_ble_eq_true rfl) ?_
        clear hv
        obtain ⟨n8, hn8, h⟩ := ruB_inv h
        obtain ⟨A9, hv, h⟩ := ruB_inv h
        refine ru_iast ddX10_write_71 (rudI_eq hn8) hv ?_
        clear hv
        refine ru_iconst (1 : Int32) ddX10_write_72 rfl ?_
        exact ru_iretW ddX10_write_73 rfl h
      · rw [if_pos hc] at h
        refine ru_aload_n ddX10_write_52 rfl ?_
        refine ru_ldc (v := (-1000001 : Int32)) ddX10_write_53 ckX10_81 ?_
        obtain ⟨v10, A11, hv, h⟩ := ruB2_inv h
        refine ru_callVi (as := [.int (-1000001 : Int32)]) (st := []) ddX10_write_55 cvX10_82 rfl (wX10_finding 2 (Nat.le_refl _) (-1000001 : Int32) A hv) rfl (Nat.le_trans (m := 3) (by decide) hd) (Nat.le_of_ble_eq_true rfl) ?_
        clear hv
        exact ru_iretW ddX10_write_58 rfl h
    · rw [if_neg hc] at h
      refine ru_aload_n ddX10_write_30 rfl ?_
      refine ru_ldc (v := (-1000006 : Int32)) ddX10_write_31 ckX10_169 ?_
      obtain ⟨v12, A13, hv, h⟩ := ruB2_inv h
      refine ru_callVi (as := [.int (-1000006 : Int32)]) (st := []) ddX10_write_33 cvX10_82 rfl (wX10_finding 2 (Nat.le_refl _) (-1000006 : Int32) A hv) rfl (Nat.le_trans (m := 3) (by decide) hd) (Nat.le_of_ble_eq_true rfl) ?_
      clear hv
      exact ru_iretW ddX10_write_36 rfl h
  · rw [if_pos hc] at h
    refine ru_aload_n ddX10_write_7 rfl ?_
    refine ru_ldc (v := (-1000001 : Int32)) ddX10_write_8 ckX10_81 ?_
    obtain ⟨v14, A15, hv, h⟩ := ruB2_inv h
    refine ru_callVi (as := [.int (-1000001 : Int32)]) (st := []) ddX10_write_10 cvX10_82 rfl (wX10_finding 2 (Nat.le_refl _) (-1000001 : Int32) A hv) rfl (Nat.le_trans (m := 3) (by decide) hd) (Nat.le_of_ble_eq_true rfl) ?_
    clear hv
    exact ru_iretW ddX10_write_13 rfl h
theorem wX7_hasPart {E : ruE} (d : Nat) (hd : 1 ≤ d) (x0 : Nat) (x1 : Int32) (x2 : Int32) (A : ruA) {r : Int32} (h : fX7_hasPart x0 x1 x2 A = some r) : ruC E mmX7_hasPart d [rurf E x0, .int x1, .int x2] A (ruPr r A) := by
  refine ruC.of (L := [some (rurf E x0), some (.int x1), some (.int x2)]) (by decide) rfl (Nat.le_of_ble_eq_true rfl) rfl ?_
  unfold fX7_hasPart at h
  refine ru_iload_n ddX7_hasPart_0 rfl ?_
  refine ru_if_lt 22 ddX7_hasPart_1 (by decide) (fun hc => ?_) (fun hc => ?_)
  · rw [if_pos hc] at h
    refine ru_iconst (0 : Int32) ddX7_hasPart_22 rfl ?_
    exact ru_zretP ddX7_hasPart_23 rfl (Or.inl rfl) h
  · rw [if_neg hc] at h
    refine ru_iload_n ddX7_hasPart_4 rfl ?_
    refine ru_if_lt 22 ddX7_hasPart_5 (by decide) (fun hc => ?_) (fun hc => ?_)
    · rw [if_pos hc] at h
      refine ru_iconst (0 : Int32) ddX7_hasPart_22 rfl ?_
      exact ru_zretP ddX7_hasPart_23 rfl (Or.inl rfl) h
    · rw [if_neg hc] at h
      refine ru_iload_n ddX7_hasPart_8 rfl ?_
      refine ru_aload_n ddX7_hasPart_9 rfl ?_
      obtain ⟨_, ho1, h⟩ := ruB_inv h
      refine ru_getI ddX7_hasPart_10 flX7_19 (rudO_eq ho1) ?_
      refine ru_iload_n ddX7_hasPart_13 rfl ?_
      refine ru_isub ddX7_hasPart_14 ?_
      refine ru_icmp_gt 22 ddX7_hasPart_15 (by decide) (fun hc => ?_) (fun hc => ?_)
      · rw [if_pos hc] at h
        refine ru_iconst (0 : Int32) ddX7_hasPart_22 rfl ?_
        exact ru_zretP ddX7_hasPart_23 rfl (Or.inl rfl) h
      · rw [if_neg hc] at h
        refine ru_iconst (1 : Int32) ddX7_hasPart_18 rfl ?_
        refine ru_goto 23 ddX7_hasPart_19 (by decide) ?_
        exact ru_zretP ddX7_hasPart_23 rfl (Or.inr rfl) h
theorem wX10_copy {E : ruE} (d : Nat) (hd : 3 ≤ d) (x1 : Int32) (x2 : Int32) (x3 : Int32) (x4 : Int32) (x5 : Int32) (A : ruA) {r : Int32} {B : ruA} (h : fX10_copy x1 x2 x3 x4 x5 A = some (r, B)) : ruC E mmX10_copy d [rurf E 0, .int x1, .int x2, .int x3, .int x4, .int x5] A (ruPr r B) := by
  refine ruC.of (L := [some (rurf E 0), some (.int x1), some (.int x2), some (.int x3), some (.int x4), some (.int x5), none, none]) (by decide) rfl (Nat.le_of_ble_eq_true rfl) rfl ?_
  unfold fX10_copy at h
  refine ru_iload_n ddX10_copy_0 rfl ?_
  obtain ⟨v1, hv, h⟩ := ruB_inv h
  refine ru_callSi (as := [.int x1]) (st := []) ddX10_copy_1 csX10_162 (wX10_isSlip 2 (Nat.le_refl _) x1 A hv) rfl (Nat.le_trans (m := 3) (by decide) hd) (Nat.le_of_ble_eq_true rfl) ?_
  clear hv
  refine ru_if_eq 14 ddX10_copy_4 (by decide) (fun hc => ?_) (fun hc => ?_)
  · rw [if_pos hc] at h
    refine ru_aload_n ddX10_copy_14 rfl ?_
    refine ru_ldc (v := (-1000001 : Int32)) ddX10_copy_15 ckX10_81 ?_
    obtain ⟨v2, A3, hv, h⟩ := ruB2_inv h
    refine ru_callVi (as := [.int (-1000001 : Int32)]) (st := []) ddX10_copy_17 cvX10_82 rfl (wX10_finding 2 (Nat.le_refl _) (-1000001 : Int32) A hv) rfl (Nat.le_trans (m := 3) (by decide) hd) (Nat.le_of_ble_eq_true rfl) ?_
    clear hv
    exact ru_iretW ddX10_copy_20 rfl h
  · rw [if_neg hc] at h
    refine ru_iload_n ddX10_copy_7 rfl ?_
    obtain ⟨v4, hv, h⟩ := ruB_inv h
    refine ru_callSi (as := [.int x3]) (st := []) ddX10_copy_8 csX10_162 (wX10_isSlip 2 (Nat.le_refl _) x3 A hv) rfl (Nat.le_trans (m := 3) (by decide) hd) (Nat.le_of_ble_eq_true rfl) ?_
    clear hv
    refine ru_if_ne 21 ddX10_copy_11 (by decide) (fun hc => ?_) (fun hc => ?_)
    · rw [if_neg hc] at h
      refine ru_aload_n ddX10_copy_21 rfl ?_
      refine ru_getR (r := 73) ddX10_copy_22 flX10_62 rfl rfl ?_
      refine ru_iload_n ddX10_copy_25 rfl ?_
      obtain ⟨c5, hv, h⟩ := ruB_inv h
      refine ru_aald3 ddX10_copy_26 rfl hv ?_
      clear hv
      refine ru_astore ddX10_copy_27 (by decide) rfl rfl ?_
      refine ru_aload_n ddX10_copy_29 rfl ?_
      refine ru_getR (r := 73) ddX10_copy_30 flX10_62 rfl rfl ?_
      refine ru_iload_n ddX10_copy_33 rfl ?_
      obtain ⟨c6, hv, h⟩ := ruB_inv h
      refine ru_aald3 ddX10_copy_34 rfl hv ?_
      clear hv
      refine ru_astore ddX10_copy_35 (by decide) rfl rfl ?_
      refine ru_aload ddX10_copy_37 rfl ?_
      obtain ⟨_, ho7, h⟩ := ruB_inv h
      obtain ⟨v8, hv, h⟩ := ruB_inv h
      refine ru_callVi (as := []) (st := []) ddX10_copy_39 cvX10_165 (rudO_eq ho7) (wX7_isMissing 1 (Nat.le_refl _) c5 A hv) rfl (Nat.le_trans (m := 3) (by decide) hd) (Nat.le_of_ble_eq_true rfl) ?_
      clear hv
      refine ru_if_ne 53 ddX10_copy_42 (by decide) (fun hc => ?_) (fun hc => ?_)
      · rw [if_neg hc] at h
        refine ru_aload_n ddX10_copy_53 rfl ?_
        refine ru_ldc (v := (-1000006 : Int32)) ddX10_copy_54 ckX10_169 ?_
        obtain ⟨v9, A10, hv, h⟩ := ruB2_inv h
        refine ru_callVi (as := [.int (-1000006 : Int32)]) (st := []) ddX10_copy_56 cvX10_82 rfl (wX10_finding 2 (Nat.le_refl _) (-1000006 : Int32) A hv) rfl (Nat.le_trans (m := 3) (by decide) hd) (Nat.le_of_ble_eq_true rfl) ?_
        clear hv
        exact ru_iretW ddX10_copy_59 rfl h
      · rw [if_pos hc] at h
        refine ru_aload ddX10_copy_45 rfl ?_
        obtain ⟨_, ho11, h⟩ := ruB_inv h
        obtain ⟨v12, hv, h⟩ := ruB_inv h
        refine ru_callVi (as := []) (st := []) ddX10_copy_47 cvX10_165 (rudO_eq ho11) (wX7_isMissing 1 (Nat.le_refl _) c6 A hv) rfl (Nat.le_trans (m := 3) (by decide) hd) (Nat.le_of_ble_eq_true rfl) ?_
        clear hv
        refine ru_if_eq 60 ddX10_copy_50 (by decide) (fun hc => ?_) (fun hc => ?_)
        · rw [if_pos hc] at h
          refine ru_aload ddX10_copy_60 rfl ?_
          refine ru_getI ddX10_copy_62 flX10_353 (rudO_eq ho7) ?_
          refine ru_aload ddX10_copy_65 rfl ?_
          refine ru_getI ddX10_copy_67 flX10_353 (rudO_eq ho11) ?_
          refine ru_icmp_eq 80 ddX10_copy_70 (by decide) (fun hc => ?_) (fun hc => ?_)
          · rw [if_pos hc] at h
            refine ru_aload ddX10_copy_80 rfl ?_
            refine ru_iload_n ddX10_copy_82 rfl ?_
            refine ru_iload ddX10_copy_83 rfl ?_
            obtain ⟨v13, hv, h⟩ := ruB_inv h
            refine ru_callVi (as := [.int x2, .int x5]) (st := []) ddX10_copy_85 cvX10_356 (rudO_eq ho7) (wX7_hasPart 1 (Nat.le_refl _) c5 x2 x5 A hv) rfl (Nat.le_trans (m := 3) (by decide) hd) (Nat.le_of_ble_eq_true rfl) ?_
            clear hv
            refine ru_if_eq 103 ddX10_copy_88 (by decide) (fun hc => ?_) (fun hc => ?_)
            · rw [if_pos hc] at h
              refine ru_aload_n ddX10_copy_103 rfl ?_
              refine ru_ldc (v := (-1000001 : Int32)) ddX10_copy_104 ckX10_81 ?_
              obtain ⟨v14, A15, hv, h⟩ := ruB2_inv h
              refine ru_callVi (as := [.int (-1000001 : Int32)]) (st := []) ddX10_copy_106 cvX10_82 rfl (wX10_finding 2 (Nat.le_refl _) (-1000001 : Int32) A hv) rfl (Nat.le_trans (m := 3) (by decide) hd) (Nat.le_of_ble_eq_true rfl) ?_
              clear hv
              exact ru_iretW ddX10_copy_109 rfl h
            · rw [if_neg hc] at h
              refine ru_aload ddX10_copy_91 rfl ?_
              refine ru_iload ddX10_copy_93 rfl ?_
              refine ru_iload ddX10_copy_95 rfl ?_
              obtain ⟨v16, hv, h⟩ := ruB_inv h
              refine ru_callVi (as := [.int x4, .int x5]) (st := []) ddX10_copy_97 cvX10_356 (rudO_eq ho11) (wX7_hasPart 1 (Nat.le_refl _) c6 x4 x5 A hv) rfl (Nat.le_trans (m := 3) (by decide) hd) (Nat.le_of_ble_eq_true rfl) ?_
              clear hv
              refine ru_if_ne 110 ddX10_copy_100 (by decide) (fun hc => ?_) (fun hc => ?_)
              · rw [if_neg hc] at h
                refine ru_aload ddX10_copy_110 rfl ?_
                obtain ⟨c17, hv, h⟩ := ruB_inv h
                refine ru_getR ddX10_copy_112 flX10_177 (rudO_eq ho7) hv ?_
                clear hv
                refine ru_iload_n ddX10_copy_115 rfl ?_
                refine ru_aload ddX10_copy_116 rfl ?_
                obtain ⟨c18, hv, h⟩ := ruB_inv h
                refine ru_getR ddX10_copy_118 flX10_177 (rudO_eq ho11) hv ?_
                clear hv
                refine ru_iload ddX10_copy_121 rfl ?_
                refine ru_iload ddX10_copy_123 rfl ?_
                obtain ⟨n19, hn19, h⟩ := ruB_inv h
                obtain ⟨n20, hn20, h⟩ := ruB_inv h
                obtain ⟨A21, hv, h⟩ := ruB_inv h
                refine ru_acopy ddX10_copy_125 caX10_359 (Nat.le_trans (m := 3) (by decide) hd) (rudI_eq hn19) (rudI_eq hn20) (Nat.le_of_ble_eq_true rfl) hv ?_
                clear hv
                refine ru_iload ddX10_copy_128 rfl ?_
                exact ru_iretW ddX10_copy_130 rfl h
              · rw [if_pos hc] at h
                refine ru_aload_n ddX10_copy_103 rfl ?_
                refine ru_ldc (v := (-1000001 : Int32)) ddX10_copy_104 ckX10_81 ?_
                obtain ⟨v22, A23, hv, h⟩ := ruB2_inv h
                refine ru_callVi (as := [.int (-1000001 : Int32)]) (st := []) ddX10_copy_106 cvX10_82 rfl (wX10_finding 2 (Nat.le_refl _) (-1000001 : Int32) A hv) rfl (Nat.le_trans (m := 3) (by decide) hd) (Nat.le_of_ble_eq_true rfl) ?_
                clear hv
                exact ru_iretW ddX10_copy_109 rfl h
          · rw [if_neg hc] at h
            refine ru_aload_n ddX10_copy_73 rfl ?_
            refine ru_ldc (v := (-1000003 : Int32)) ddX10_copy_74 ckX10_237 ?_
            obtain ⟨v24, A25, hv, h⟩ := ruB2_inv h
            refine ru_callVi (as := [.int (-1000003 : Int32)]) (st := []) ddX10_copy_76 cvX10_82 rfl (wX10_finding 2 (Nat.le_refl _) (-1000003 : Int32) A hv) rfl (Nat.le_trans (m := 3) (by decide) hd) (Nat.le_of_ble_eq_true rfl) ?_
            clear hv
            exact ru_iretW ddX10_copy_79 rfl h
        · rw [if_neg hc] at h
          refine ru_aload_n ddX10_copy_53 rfl ?_
          refine ru_ldc (v := (-1000006 : Int32)) ddX10_copy_54 ckX10_169 ?_
          obtain ⟨v26, A27, hv, h⟩ := ruB2_inv h
          refine ru_callVi (as := [.int (-1000006 : Int32)]) (st := []) ddX10_copy_56 cvX10_82 rfl (wX10_finding 2 (Nat.le_refl _) (-1000006 : Int32) A hv) rfl (Nat.le_trans (m := 3) (by decide) hd) (Nat.le_of_ble_eq_true rfl) ?_
          clear hv
          exact ru_iretW ddX10_copy_59 rfl h
    · rw [if_pos hc] at h
      refine ru_aload_n ddX10_copy_14 rfl ?_
      refine ru_ldc (v := (-1000001 : Int32)) ddX10_copy_15 ckX10_81 ?_
      obtain ⟨v28, A29, hv, h⟩ := ruB2_inv h
      refine ru_callVi (as := [.int (-1000001 : Int32)]) (st := []) ddX10_copy_17 cvX10_82 rfl (wX10_finding 2 (Nat.le_refl _) (-1000001 : Int32) A hv) rfl (Nat.le_trans (m := 3) (by decide) hd) (Nat.le_of_ble_eq_true rfl) ?_
      clear hv
      exact ru_iretW ddX10_copy_20 rfl h
theorem wX10_check_l74 {E : ruE} {d : Nat} (hd : 6 ≤ d) {β : Type} {Q : Option Value → ruA → Prop} {res : β} (x1 : Int32) (x2 : Int32) (x4 : Nat) {k113 : Int32 → ruA → Option (β)} {k122 : ruA → Option (β)} (hk113 : ∀ (x5 : Int32) (A : ruA), k113 x5 A = some res → ruW E mmX10_check d Q 113 [none, none, none, none, none, some (.int x5)] [] A) (hk122 : ∀ (A : ruA), k122 A = some res → ruW E mmX10_check d Q 122 [none, none, none, none, some (rurf E x4), none] [] A) : ∀ (n : Nat) (x5 : Int32) (A : ruA), fX10_check_l74 x1 x2 x4 k113 k122 n x5 A = some res → ruW E mmX10_check d Q 74 [some (rurf E 0), some (.int x1), some (.int x2), none, some (rurf E x4), some (.int x5)] [] A := by
  intro n
  induction n with
  | zero =>
    intro x5 A h
    exact absurd h (by rw [fX10_check_l74]; exact fun h => nomatch h)
  | succ n ih =>
    intro x5 A h
    rw [fX10_check_l74] at h
    refine ru_iload ddX10_check_74 rfl ?_
    refine ru_aload ddX10_check_76 rfl ?_
    obtain ⟨_, ho12, h⟩ := ruB_inv h
    refine ru_getI ddX10_check_78 flX10_170 (rudO_eq ho12) ?_
    refine ru_icmp_ge 122 ddX10_check_81 (by decide) (fun hc => ?_) (fun hc => ?_)
    · rw [if_pos hc] at h
      refine ru_wk (L2 := [none, none, none, none, some (rurf E x4), none]) ⟨rfl, trivial⟩ ?_
      exact hk122 A h
    · rw [if_neg hc] at h
      refine ru_iload ddX10_check_84 rfl ?_
      refine ru_bipush (7 : Int32) ddX10_check_86 rfl ?_
      refine ru_icmp_ge 113 ddX10_check_88 (by decide) (fun hc => ?_) (fun hc => ?_)
      · rw [if_pos hc] at h
        refine ru_wk (L2 := [none, none, none, none, none, some (.int x5)]) ⟨rfl, trivial⟩ ?_
        exact hk113 x5 A h
      · rw [if_neg hc] at h
        refine ru_aload ddX10_check_91 rfl ?_
        obtain ⟨c13, hv, h⟩ := ruB_inv h
        refine ru_getR ddX10_check_93 flX10_177 (rudO_eq ho12) hv ?_
        clear hv
        refine ru_iload ddX10_check_96 rfl ?_
        obtain ⟨n15, hn15, h⟩ := ruB_inv h
        obtain ⟨v14, hv, h⟩ := ruB_inv h
        refine ru_iald ddX10_check_98 (rudI_eq hn15) hv ?_
        clear hv
        refine ru_aload_n ddX10_check_99 rfl ?_
        refine ru_getR (r := 63) ddX10_check_100 flX10_38 rfl rfl ?_
        refine ru_iload ddX10_check_103 rfl ?_
        refine ru_iload_n ddX10_check_105 rfl ?_
        refine ru_iload_n ddX10_check_106 rfl ?_
        obtain ⟨v16, A17, hv, h⟩ := ruB2_inv h
        refine ru_callVi (as := [.int x5, .int x1, .int x2]) (st := [.int v14]) ddX10_check_107 cvX10_241 rfl (wX3_of 5 (Nat.le_refl _) x5 x1 x2 A hv) rfl (Nat.le_trans (m := 6) (by decide) hd) (Nat.le_of_ble_eq_true rfl) ?_
        clear hv
        refine ru_icmp_eq 116 ddX10_check_110 (by decide) (fun hc => ?_) (fun hc => ?_)
        · rw [if_pos hc] at h
          refine ru_iinc (x5 + (1 : Int32)) ddX10_check_116 (by decide) rfl rfl rfl rfl ?_
          refine ru_goto 74 ddX10_check_119 (by decide) ?_
          exact ih (x5 + (1 : Int32)) A17 h
        · rw [if_neg hc] at h
          refine ru_wk (L2 := [none, none, none, none, none, some (.int x5)]) ⟨rfl, trivial⟩ ?_
          exact hk113 x5 A17 h
theorem wX10_check {E : ruE} (d : Nat) (hd : 6 ≤ d) (x1 : Int32) (x2 : Int32) (x3 : Int32) (A : ruA) {r : Int32} {B : ruA} (h : fX10_check x1 x2 x3 A = some (r, B)) : ruC E mmX10_check d [rurf E 0, .int x1, .int x2, .int x3] A (ruPr r B) := by
  refine ruC.of (L := [some (rurf E 0), some (.int x1), some (.int x2), some (.int x3), none, none]) (by decide) rfl (Nat.le_of_ble_eq_true rfl) rfl ?_
  unfold fX10_check at h
  refine ru_aload_n ddX10_check_0 rfl ?_
  refine ru_iload_n ddX10_check_1 rfl ?_
  obtain ⟨v1, hv, h⟩ := ruB_inv h
  refine ru_callVi (as := [.int x1]) (st := []) ddX10_check_2 cvX10_98 rfl (wX10_isRoom 2 (Nat.le_refl _) x1 A hv) rfl (Nat.le_trans (m := 6) (by decide) hd) (Nat.le_of_ble_eq_true rfl) ?_
  clear hv
  refine ru_if_eq 22 ddX10_check_5 (by decide) (fun hc => ?_) (fun hc => ?_)
  · rw [if_pos hc] at h
    refine ru_aload_n ddX10_check_22 rfl ?_
    refine ru_ldc (v := (-1000001 : Int32)) ddX10_check_23 ckX10_81 ?_
    obtain ⟨v2, A3, hv, h⟩ := ruB2_inv h
    refine ru_callVi (as := [.int (-1000001 : Int32)]) (st := []) ddX10_check_25 cvX10_82 rfl (wX10_finding 2 (Nat.le_refl _) (-1000001 : Int32) A hv) rfl (Nat.le_trans (m := 6) (by decide) hd) (Nat.le_of_ble_eq_true rfl) ?_
    clear hv
    exact ru_iretW ddX10_check_28 rfl h
  · rw [if_neg hc] at h
    refine ru_iload_n ddX10_check_8 rfl ?_
    obtain ⟨v4, hv, h⟩ := ruB_inv h
    refine ru_callSi (as := [.int x2]) (st := []) ddX10_check_9 csX10_203 (wX10_isYear 2 (Nat.le_refl _) x2 A hv) rfl (Nat.le_trans (m := 6) (by decide) hd) (Nat.le_of_ble_eq_true rfl) ?_
    clear hv
    refine ru_if_eq 22 ddX10_check_12 (by decide) (fun hc => ?_) (fun hc => ?_)
    · rw [if_pos hc] at h
      refine ru_aload_n ddX10_check_22 rfl ?_
      refine ru_ldc (v := (-1000001 : Int32)) ddX10_check_23 ckX10_81 ?_
      obtain ⟨v5, A6, hv, h⟩ := ruB2_inv h
      refine ru_callVi (as := [.int (-1000001 : Int32)]) (st := []) ddX10_check_25 cvX10_82 rfl (wX10_finding 2 (Nat.le_refl _) (-1000001 : Int32) A hv) rfl (Nat.le_trans (m := 6) (by decide) hd) (Nat.le_of_ble_eq_true rfl) ?_
      clear hv
      exact ru_iretW ddX10_check_28 rfl h
    · rw [if_neg hc] at h
      refine ru_iload_n ddX10_check_15 rfl ?_
      obtain ⟨v7, hv, h⟩ := ruB_inv h
      refine ru_callSi (as := [.int x3]) (st := []) ddX10_check_16 csX10_162 (wX10_isSlip 2 (Nat.le_refl _) x3 A hv) rfl (Nat.le_trans (m := 6) (by decide) hd) (Nat.le_of_ble_eq_true rfl) ?_
      clear hv
      refine ru_if_ne 29 ddX10_check_19 (by decide) (fun hc => ?_) (fun hc => ?_)
      · rw [if_neg hc] at h
        refine ru_aload_n ddX10_check_29 rfl ?_
        refine ru_getR (r := 73) ddX10_check_30 flX10_62 rfl rfl ?_
        refine ru_iload_n ddX10_check_33 rfl ?_
        obtain ⟨c8, hv, h⟩ := ruB_inv h
        refine ru_aald3 ddX10_check_34 rfl hv ?_
        clear hv
        refine ru_astore ddX10_check_35 (by decide) rfl rfl ?_
        refine ru_aload ddX10_check_37 rfl ?_
        obtain ⟨_, ho9, h⟩ := ruB_inv h
        obtain ⟨v10, hv, h⟩ := ruB_inv h
        refine ru_callVi (as := []) (st := []) ddX10_check_39 cvX10_165 (rudO_eq ho9) (wX7_isMissing 1 (Nat.le_refl _) c8 A hv) rfl (Nat.le_trans (m := 6) (by decide) hd) (Nat.le_of_ble_eq_true rfl) ?_
        clear hv
        refine ru_if_eq 52 ddX10_check_42 (by decide) (fun hc => ?_) (fun hc => ?_)
        · rw [if_pos hc] at h
          refine ru_aload_n ddX10_check_52 rfl ?_
          refine ru_getR (r := 63) ddX10_check_53 flX10_38 rfl rfl ?_
          refine ru_iload_n ddX10_check_56 rfl ?_
          refine ru_iload_n ddX10_check_57 rfl ?_
          obtain ⟨v11, hv, h⟩ := ruB_inv h
          refine ru_callVi (as := [.int x1, .int x2]) (st := []) ddX10_check_58 cvX10_238 rfl (wX3_hasSheets 2 (Nat.le_refl _) x1 x2 A hv) rfl (Nat.le_trans (m := 6) (by decide) hd) (Nat.le_of_ble_eq_true rfl) ?_
          clear hv
          refine ru_if_ne 71 ddX10_check_61 (by decide) (fun hc => ?_) (fun hc => ?_)
          · rw [if_neg hc] at h
            refine ru_iconst (0 : Int32) ddX10_check_71 rfl ?_
            refine ru_istore ddX10_check_72 (by decide) rfl rfl ?_
            refine ru_wk (L2 := [some (rurf E 0), some (.int x1), some (.int x2), none, some (rurf E c8), some (.int (0 : Int32))]) ⟨rfl, rfl, rfl, rfl, rfl, trivial⟩ ?_
            exact wX10_check_l74 hd x1 x2 c8 (fun v18 A19 h => by
                  refine ru_iload ddX10_check_113 rfl ?_
                  exact ru_iretW ddX10_check_115 rfl h) (fun A20 h => by
                  refine ru_aload ddX10_check_122 rfl ?_
                  refine ru_getI ddX10_check_124 flX10_170 (rudO_eq ho9) ?_
                  exact ru_iretW ddX10_check_127 rfl h) ruF (0 : Int32) A h
          · rw [if_pos hc] at h
            refine ru_aload_n ddX10_check_64 rfl ?_
            refine ru_ldc (v := (-1000004 : Int32)) ddX10_check_65 ckX10_202 ?_
            obtain ⟨v21, A22, hv, h⟩ := ruB2_inv h
            refine ru_callVi (as := [.int (-1000004 : Int32)]) (st := []) ddX10_check_67 cvX10_82 rfl (wX10_finding 2 (Nat.le_refl _) (-1000004 : Int32) A hv) rfl (Nat.le_trans (m := 6) (by decide) hd) (Nat.le_of_ble_eq_true rfl) ?_
            clear hv
            exact ru_iretW ddX10_check_70 rfl h
        · rw [if_neg hc] at h
          refine ru_aload_n ddX10_check_45 rfl ?_
          refine ru_ldc (v := (-1000006 : Int32)) ddX10_check_46 ckX10_169 ?_
          obtain ⟨v23, A24, hv, h⟩ := ruB2_inv h
          refine ru_callVi (as := [.int (-1000006 : Int32)]) (st := []) ddX10_check_48 cvX10_82 rfl (wX10_finding 2 (Nat.le_refl _) (-1000006 : Int32) A hv) rfl (Nat.le_trans (m := 6) (by decide) hd) (Nat.le_of_ble_eq_true rfl) ?_
          clear hv
          exact ru_iretW ddX10_check_51 rfl h
      · rw [if_pos hc] at h
        refine ru_aload_n ddX10_check_22 rfl ?_
        refine ru_ldc (v := (-1000001 : Int32)) ddX10_check_23 ckX10_81 ?_
        obtain ⟨v25, A26, hv, h⟩ := ruB2_inv h
        refine ru_callVi (as := [.int (-1000001 : Int32)]) (st := []) ddX10_check_25 cvX10_82 rfl (wX10_finding 2 (Nat.le_refl _) (-1000001 : Int32) A hv) rfl (Nat.le_trans (m := 6) (by decide) hd) (Nat.le_of_ble_eq_true rfl) ?_
        clear hv
        exact ru_iretW ddX10_check_28 rfl h
theorem wX5_become {E : ruE} (d : Nat) (hd : 1 ≤ d) (A : ruA) {B : ruA} (h : fX5_become A = some B) : ruC E mmX5_become d [rurf E 33, rurf E 2] A (ruPv B) := by
  refine ruC.of (L := [some (rurf E 33), some (rurf E 2)]) (by decide) rfl (Nat.le_of_ble_eq_true rfl) rfl ?_
  unfold fX5_become at h
  refine ru_aload_n ddX5_become_0 rfl ?_
  refine ru_aload_n ddX5_become_1 rfl ?_
  refine ru_getI ddX5_become_2 flX5_30 rfl ?_
  obtain ⟨A1, hv, h⟩ := ruB_inv h
  refine ru_putI2 ddX5_become_5 flX5_30 fp5_0 rfl hv ?_
  clear hv
  refine ru_aload_n ddX5_become_8 rfl ?_
  refine ru_aload_n ddX5_become_9 rfl ?_
  refine ru_getI ddX5_become_10 flX5_34 rfl ?_
  obtain ⟨A2, hv, h⟩ := ruB_inv h
  refine ru_putI2 ddX5_become_13 flX5_34 fp5_1 rfl hv ?_
  clear hv
  refine ru_aload_n ddX5_become_16 rfl ?_
  refine ru_aload_n ddX5_become_17 rfl ?_
  refine ru_getI ddX5_become_18 flX5_37 rfl ?_
  obtain ⟨A3, hv, h⟩ := ruB_inv h
  refine ru_putI2 ddX5_become_21 flX5_37 fp5_2 rfl hv ?_
  clear hv
  refine ru_aload_n ddX5_become_24 rfl ?_
  refine ru_getR (r := 3) ddX5_become_25 flX5_9 rfl rfl ?_
  refine ru_iconst (0 : Int32) ddX5_become_28 rfl ?_
  refine ru_aload_n ddX5_become_29 rfl ?_
  refine ru_getR (r := 34) ddX5_become_30 flX5_9 rfl rfl ?_
  refine ru_iconst (0 : Int32) ddX5_become_33 rfl ?_
  refine ru_bipush (12 : Int32) ddX5_become_34 rfl ?_
  obtain ⟨A4, hv, h⟩ := ruB_inv h
  refine ru_acopy ddX5_become_36 caX5_40 (Nat.le_trans (m := 1) (by decide) hd) rfl rfl (Nat.le_of_ble_eq_true rfl) hv ?_
  clear hv
  refine ru_aload_n ddX5_become_39 rfl ?_
  refine ru_getR (r := 4) ddX5_become_40 flX5_15 rfl rfl ?_
  refine ru_iconst (0 : Int32) ddX5_become_43 rfl ?_
  refine ru_aload_n ddX5_become_44 rfl ?_
  refine ru_getR (r := 35) ddX5_become_45 flX5_15 rfl rfl ?_
  refine ru_iconst (0 : Int32) ddX5_become_48 rfl ?_
  refine ru_bipush (12 : Int32) ddX5_become_49 rfl ?_
  obtain ⟨A5, hv, h⟩ := ruB_inv h
  refine ru_acopy ddX5_become_51 caX5_40 (Nat.le_trans (m := 1) (by decide) hd) rfl rfl (Nat.le_of_ble_eq_true rfl) hv ?_
  clear hv
  refine ru_aload_n ddX5_become_54 rfl ?_
  refine ru_getR (r := 5) ddX5_become_55 flX5_18 rfl rfl ?_
  refine ru_iconst (0 : Int32) ddX5_become_58 rfl ?_
  refine ru_aload_n ddX5_become_59 rfl ?_
  refine ru_getR (r := 36) ddX5_become_60 flX5_18 rfl rfl ?_
  refine ru_iconst (0 : Int32) ddX5_become_63 rfl ?_
  refine ru_bipush (24 : Int32) ddX5_become_64 rfl ?_
  obtain ⟨A6, hv, h⟩ := ruB_inv h
  refine ru_acopy ddX5_become_66 caX5_40 (Nat.le_trans (m := 1) (by decide) hd) rfl rfl (Nat.le_of_ble_eq_true rfl) hv ?_
  clear hv
  refine ru_aload_n ddX5_become_69 rfl ?_
  refine ru_getR (r := 6) ddX5_become_70 flX5_21 rfl rfl ?_
  refine ru_iconst (0 : Int32) ddX5_become_73 rfl ?_
  refine ru_aload_n ddX5_become_74 rfl ?_
  refine ru_getR (r := 37) ddX5_become_75 flX5_21 rfl rfl ?_
  refine ru_iconst (0 : Int32) ddX5_become_78 rfl ?_
  refine ru_bipush (24 : Int32) ddX5_become_79 rfl ?_
  obtain ⟨A7, hv, h⟩ := ruB_inv h
  refine ru_acopy ddX5_become_81 caX5_40 (Nat.le_trans (m := 1) (by decide) hd) rfl rfl (Nat.le_of_ble_eq_true rfl) hv ?_
  clear hv
  refine ru_aload_n ddX5_become_84 rfl ?_
  refine ru_getR (r := 7) ddX5_become_85 flX5_24 rfl rfl ?_
  refine ru_iconst (0 : Int32) ddX5_become_88 rfl ?_
  refine ru_aload_n ddX5_become_89 rfl ?_
  refine ru_getR (r := 38) ddX5_become_90 flX5_24 rfl rfl ?_
  refine ru_iconst (0 : Int32) ddX5_become_93 rfl ?_
  refine ru_bipush (24 : Int32) ddX5_become_94 rfl ?_
  obtain ⟨A8, hv, h⟩ := ruB_inv h
  refine ru_acopy ddX5_become_96 caX5_40 (Nat.le_trans (m := 1) (by decide) hd) rfl rfl (Nat.le_of_ble_eq_true rfl) hv ?_
  clear hv
  refine ru_aload_n ddX5_become_99 rfl ?_
  refine ru_getR (r := 8) ddX5_become_100 flX5_27 rfl rfl ?_
  refine ru_iconst (0 : Int32) ddX5_become_103 rfl ?_
  refine ru_aload_n ddX5_become_104 rfl ?_
  refine ru_getR (r := 39) ddX5_become_105 flX5_27 rfl rfl ?_
  refine ru_iconst (0 : Int32) ddX5_become_108 rfl ?_
  refine ru_bipush (24 : Int32) ddX5_become_109 rfl ?_
  obtain ⟨A9, hv, h⟩ := ruB_inv h
  refine ru_acopy ddX5_become_111 caX5_40 (Nat.le_trans (m := 1) (by decide) hd) rfl rfl (Nat.le_of_ble_eq_true rfl) hv ?_
  clear hv
  exact ru_vretW ddX5_become_114 rfl h
theorem wX6_become_l2 {E : ruE} {d : Nat} (hd : 1 ≤ d) {β : Type} {Q : Option Value → ruA → Prop} {res : β} {k27 : ruA → Option (β)} (hk27 : ∀ (A : ruA), k27 A = some res → ruW E mmX6_become d Q 27 [some (rurf E 40), some (rurf E 9), none] [] A) : ∀ (n : Nat) (x2 : Int32) (A : ruA), fX6_become_l2 k27 n x2 A = some res → ruW E mmX6_become d Q 2 [some (rurf E 40), some (rurf E 9), some (.int x2)] [] A := by
  intro n
  induction n with
  | zero =>
    intro x2 A h
    exact absurd h (by rw [fX6_become_l2]; exact fun h => nomatch h)
  | succ n ih =>
    intro x2 A h
    rw [fX6_become_l2] at h
    refine ru_iload_n ddX6_become_2 rfl ?_
    refine ru_sipush (144 : Int32) ddX6_become_3 rfl ?_
    refine ru_icmp_ge 27 ddX6_become_6 (by decide) (fun hc => ?_) (fun hc => ?_)
    · rw [if_pos hc] at h
      refine ru_wk (L2 := [some (rurf E 40), some (rurf E 9), none]) ⟨rfl, rfl, trivial⟩ ?_
      exact hk27 A h
    · rw [if_neg hc] at h
      refine ru_aload_n ddX6_become_9 rfl ?_
      refine ru_getR (r := 41) ddX6_become_10 flX6_9 rfl rfl ?_
      refine ru_iload_n ddX6_become_13 rfl ?_
      refine ru_aload_n ddX6_become_14 rfl ?_
      refine ru_getR (r := 10) ddX6_become_15 flX6_9 rfl rfl ?_
      refine ru_iload_n ddX6_become_18 rfl ?_
      obtain ⟨v1, hv, h⟩ := ruB_inv h
      refine ru_zald ddX6_become_19 rfl hv ?_
      clear hv
      obtain ⟨A2, hv, h⟩ := ruB_inv h
      refine ru_zast ddX6_become_20 rfl hv ?_
      clear hv
      refine ru_iinc (x2 + (1 : Int32)) ddX6_become_21 (by decide) rfl rfl rfl rfl ?_
      refine ru_goto 2 ddX6_become_24 (by decide) ?_
      exact ih (x2 + (1 : Int32)) A2 h
theorem wX6_become {E : ruE} (d : Nat) (hd : 1 ≤ d) (A : ruA) {B : ruA} (h : fX6_become A = some B) : ruC E mmX6_become d [rurf E 40, rurf E 9] A (ruPv B) := by
  refine ruC.of (L := [some (rurf E 40), some (rurf E 9), none]) (by decide) rfl (Nat.le_of_ble_eq_true rfl) rfl ?_
  unfold fX6_become at h
  refine ru_iconst (0 : Int32) ddX6_become_0 rfl ?_
  refine ru_istore_n ddX6_become_1 (by decide) rfl rfl ?_
  exact wX6_become_l2 hd (fun A3 h => by
        refine ru_aload_n ddX6_become_27 rfl ?_
        refine ru_getR (r := 11) ddX6_become_28 flX6_15 rfl rfl ?_
        refine ru_iconst (0 : Int32) ddX6_become_31 rfl ?_
        refine ru_aload_n ddX6_become_32 rfl ?_
        refine ru_getR (r := 42) ddX6_become_33 flX6_15 rfl rfl ?_
        refine ru_iconst (0 : Int32) ddX6_become_36 rfl ?_
        refine ru_sipush (1728 : Int32) ddX6_become_37 rfl ?_
        obtain ⟨A4, hv, h⟩ := ruB_inv h
        refine ru_acopy ddX6_become_40 caX6_25 (Nat.le_trans (m := 1) (by decide) hd) rfl rfl (Nat.le_of_ble_eq_true rfl) hv ?_
        clear hv
        refine ru_aload_n ddX6_become_43 rfl ?_
        refine ru_getR (r := 12) ddX6_become_44 flX6_19 rfl rfl ?_
        refine ru_iconst (0 : Int32) ddX6_become_47 rfl ?_
        refine ru_aload_n ddX6_become_48 rfl ?_
        refine ru_getR (r := 43) ddX6_become_49 flX6_19 rfl rfl ?_
        refine ru_iconst (0 : Int32) ddX6_become_52 rfl ?_
        refine ru_sipush (1728 : Int32) ddX6_become_53 rfl ?_
        obtain ⟨A5, hv, h⟩ := ruB_inv h
        refine ru_acopy ddX6_become_56 caX6_25 (Nat.le_trans (m := 1) (by decide) hd) rfl rfl (Nat.le_of_ble_eq_true rfl) hv ?_
        clear hv
        refine ru_aload_n ddX6_become_59 rfl ?_
        refine ru_getR (r := 13) ddX6_become_60 flX6_22 rfl rfl ?_
        refine ru_iconst (0 : Int32) ddX6_become_63 rfl ?_
        refine ru_aload_n ddX6_become_64 rfl ?_
        refine ru_getR (r := 44) ddX6_become_65 flX6_22 rfl rfl ?_
        refine ru_iconst (0 : Int32) ddX6_become_68 rfl ?_
        refine ru_sipush (432 : Int32) ddX6_become_69 rfl ?_
        obtain ⟨A6, hv, h⟩ := ruB_inv h
        refine ru_acopy ddX6_become_72 caX6_25 (Nat.le_trans (m := 1) (by decide) hd) rfl rfl (Nat.le_of_ble_eq_true rfl) hv ?_
        clear hv
        exact ru_vretW ddX6_become_75 rfl h) ruF (0 : Int32) A h
theorem wX9_become_l10 {E : ruE} {d : Nat} (hd : 1 ≤ d) {β : Type} {Q : Option Value → ruA → Prop} {res : β} {k53 : ruA → Option (β)} (hk53 : ∀ (A : ruA), k53 A = some res → ruW E mmX9_become d Q 53 [none, none, none] [] A) : ∀ (n : Nat) (x2 : Int32) (A : ruA), fX9_become_l10 k53 n x2 A = some res → ruW E mmX9_become d Q 10 [some (rurf E 45), some (rurf E 14), some (.int x2)] [] A := by
  intro n
  induction n with
  | zero =>
    intro x2 A h
    exact absurd h (by rw [fX9_become_l10]; exact fun h => nomatch h)
  | succ n ih =>
    intro x2 A h
    rw [fX9_become_l10] at h
    refine ru_iload_n ddX9_become_10 rfl ?_
    refine ru_bipush (6 : Int32) ddX9_become_11 rfl ?_
    refine ru_icmp_ge 53 ddX9_become_13 (by decide) (fun hc => ?_) (fun hc => ?_)
    · rw [if_pos hc] at h
      refine ru_wk (L2 := [none, none, none]) trivial ?_
      exact hk53 A h
    · rw [if_neg hc] at h
      refine ru_aload_n ddX9_become_16 rfl ?_
      refine ru_getR (r := 53) ddX9_become_17 flX9_16 rfl rfl ?_
      refine ru_iload_n ddX9_become_20 rfl ?_
      refine ru_aload_n ddX9_become_21 rfl ?_
      refine ru_getR (r := 22) ddX9_become_22 flX9_16 rfl rfl ?_
      refine ru_iload_n ddX9_become_25 rfl ?_
      obtain ⟨v2, hv, h⟩ := ruB_inv h
      refine ru_iald ddX9_become_26 rfl hv ?_
      clear hv
      obtain ⟨A3, hv, h⟩ := ruB_inv h
      refine ru_iast ddX9_become_27 rfl hv ?_
      clear hv
      refine ru_aload_n ddX9_become_28 rfl ?_
      refine ru_getR (r := 15) ddX9_become_29 flX9_11 rfl rfl ?_
      refine ru_iload_n ddX9_become_32 rfl ?_
      obtain ⟨c4, hv, h⟩ := ruB_inv h
      refine ru_aald4 ddX9_become_33 rfl hv ?_
      clear hv
      refine ru_iconst (0 : Int32) ddX9_become_34 rfl ?_
      refine ru_aload_n ddX9_become_35 rfl ?_
      refine ru_getR (r := 46) ddX9_become_36 flX9_11 rfl rfl ?_
      refine ru_iload_n ddX9_become_39 rfl ?_
      obtain ⟨c5, hv, h⟩ := ruB_inv h
      refine ru_aald4 ddX9_become_40 rfl hv ?_
      clear hv
      refine ru_iconst (0 : Int32) ddX9_become_41 rfl ?_
      refine ru_bipush (100 : Int32) ddX9_become_42 rfl ?_
      obtain ⟨n6, hn6, h⟩ := ruB_inv h
      obtain ⟨n7, hn7, h⟩ := ruB_inv h
      obtain ⟨A8, hv, h⟩ := ruB_inv h
      refine ru_acopy ddX9_become_44 caX9_24 (Nat.le_trans (m := 1) (by decide) hd) (rudI_eq hn6) (rudI_eq hn7) (Nat.le_of_ble_eq_true rfl) hv ?_
      clear hv
      refine ru_iinc (x2 + (1 : Int32)) ddX9_become_47 (by decide) rfl rfl rfl rfl ?_
      refine ru_goto 10 ddX9_become_50 (by decide) ?_
      exact ih (x2 + (1 : Int32)) A8 h
theorem wX9_become {E : ruE} (d : Nat) (hd : 1 ≤ d) (A : ruA) {B : ruA} (h : fX9_become A = some B) : ruC E mmX9_become d [rurf E 45, rurf E 14] A (ruPv B) := by
  refine ruC.of (L := [some (rurf E 45), some (rurf E 14), none]) (by decide) rfl (Nat.le_of_ble_eq_true rfl) rfl ?_
  unfold fX9_become at h
  refine ru_aload_n ddX9_become_0 rfl ?_
  refine ru_aload_n ddX9_become_1 rfl ?_
  refine ru_getI ddX9_become_2 flX9_20 rfl ?_
  obtain ⟨A1, hv, h⟩ := ruB_inv h
  refine ru_putI2 ddX9_become_5 flX9_20 fp9_0 rfl hv ?_
  clear hv
  refine ru_iconst (0 : Int32) ddX9_become_8 rfl ?_
  refine ru_istore_n ddX9_become_9 (by decide) rfl rfl ?_
  exact wX9_become_l10 hd (fun A9 h => by
        exact ru_vretW ddX9_become_53 rfl h) ruF (0 : Int32) A1 h
theorem wX2_become {E : ruE} (d : Nat) (hd : 1 ≤ d) (A : ruA) {B : ruA} (h : fX2_become A = some B) : ruC E mmX2_become d [rurf E 54, rurf E 23] A (ruPv B) := by
  refine ruC.of (L := [some (rurf E 54), some (rurf E 23)]) (by decide) rfl (Nat.le_of_ble_eq_true rfl) rfl ?_
  unfold fX2_become at h
  refine ru_aload_n ddX2_become_0 rfl ?_
  refine ru_aload_n ddX2_become_1 rfl ?_
  refine ru_getI ddX2_become_2 flX2_27 rfl ?_
  obtain ⟨A1, hv, h⟩ := ruB_inv h
  refine ru_putI2 ddX2_become_5 flX2_27 fp2_0 rfl hv ?_
  clear hv
  refine ru_aload_n ddX2_become_8 rfl ?_
  refine ru_getR (r := 24) ddX2_become_9 flX2_9 rfl rfl ?_
  refine ru_iconst (0 : Int32) ddX2_become_12 rfl ?_
  refine ru_aload_n ddX2_become_13 rfl ?_
  refine ru_getR (r := 55) ddX2_become_14 flX2_9 rfl rfl ?_
  refine ru_iconst (0 : Int32) ddX2_become_17 rfl ?_
  refine ru_bipush (30 : Int32) ddX2_become_18 rfl ?_
  obtain ⟨A2, hv, h⟩ := ruB_inv h
  refine ru_acopy ddX2_become_20 caX2_31 (Nat.le_trans (m := 1) (by decide) hd) rfl rfl (Nat.le_of_ble_eq_true rfl) hv ?_
  clear hv
  refine ru_aload_n ddX2_become_23 rfl ?_
  refine ru_getR (r := 25) ddX2_become_24 flX2_15 rfl rfl ?_
  refine ru_iconst (0 : Int32) ddX2_become_27 rfl ?_
  refine ru_aload_n ddX2_become_28 rfl ?_
  refine ru_getR (r := 56) ddX2_become_29 flX2_15 rfl rfl ?_
  refine ru_iconst (0 : Int32) ddX2_become_32 rfl ?_
  refine ru_bipush (30 : Int32) ddX2_become_33 rfl ?_
  obtain ⟨A3, hv, h⟩ := ruB_inv h
  refine ru_acopy ddX2_become_35 caX2_31 (Nat.le_trans (m := 1) (by decide) hd) rfl rfl (Nat.le_of_ble_eq_true rfl) hv ?_
  clear hv
  refine ru_aload_n ddX2_become_38 rfl ?_
  refine ru_getR (r := 26) ddX2_become_39 flX2_18 rfl rfl ?_
  refine ru_iconst (0 : Int32) ddX2_become_42 rfl ?_
  refine ru_aload_n ddX2_become_43 rfl ?_
  refine ru_getR (r := 57) ddX2_become_44 flX2_18 rfl rfl ?_
  refine ru_iconst (0 : Int32) ddX2_become_47 rfl ?_
  refine ru_bipush (30 : Int32) ddX2_become_48 rfl ?_
  obtain ⟨A4, hv, h⟩ := ruB_inv h
  refine ru_acopy ddX2_become_50 caX2_31 (Nat.le_trans (m := 1) (by decide) hd) rfl rfl (Nat.le_of_ble_eq_true rfl) hv ?_
  clear hv
  refine ru_aload_n ddX2_become_53 rfl ?_
  refine ru_getR (r := 27) ddX2_become_54 flX2_21 rfl rfl ?_
  refine ru_iconst (0 : Int32) ddX2_become_57 rfl ?_
  refine ru_aload_n ddX2_become_58 rfl ?_
  refine ru_getR (r := 58) ddX2_become_59 flX2_21 rfl rfl ?_
  refine ru_iconst (0 : Int32) ddX2_become_62 rfl ?_
  refine ru_bipush (30 : Int32) ddX2_become_63 rfl ?_
  obtain ⟨A5, hv, h⟩ := ruB_inv h
  refine ru_acopy ddX2_become_65 caX2_31 (Nat.le_trans (m := 1) (by decide) hd) rfl rfl (Nat.le_of_ble_eq_true rfl) hv ?_
  clear hv
  exact ru_vretW ddX2_become_68 rfl h
theorem wX1_become {E : ruE} (d : Nat) (hd : 1 ≤ d) (A : ruA) {B : ruA} (h : fX1_become A = some B) : ruC E mmX1_become d [rurf E 60, rurf E 29] A (ruPv B) := by
  refine ruC.of (L := [some (rurf E 60), some (rurf E 29)]) (by decide) rfl (Nat.le_of_ble_eq_true rfl) rfl ?_
  unfold fX1_become at h
  refine ru_aload_n ddX1_become_0 rfl ?_
  refine ru_aload_n ddX1_become_1 rfl ?_
  refine ru_getI ddX1_become_2 flX1_18 rfl ?_
  obtain ⟨A1, hv, h⟩ := ruB_inv h
  refine ru_putI2 ddX1_become_5 flX1_18 fp1_0 rfl hv ?_
  clear hv
  refine ru_aload_n ddX1_become_8 rfl ?_
  refine ru_getR (r := 30) ddX1_become_9 flX1_9 rfl rfl ?_
  refine ru_iconst (0 : Int32) ddX1_become_12 rfl ?_
  refine ru_aload_n ddX1_become_13 rfl ?_
  refine ru_getR (r := 61) ddX1_become_14 flX1_9 rfl rfl ?_
  refine ru_iconst (0 : Int32) ddX1_become_17 rfl ?_
  refine ru_bipush (8 : Int32) ddX1_become_18 rfl ?_
  obtain ⟨A2, hv, h⟩ := ruB_inv h
  refine ru_acopy ddX1_become_20 caX1_22 (Nat.le_trans (m := 1) (by decide) hd) rfl rfl (Nat.le_of_ble_eq_true rfl) hv ?_
  clear hv
  refine ru_aload_n ddX1_become_23 rfl ?_
  refine ru_getR (r := 31) ddX1_become_24 flX1_15 rfl rfl ?_
  refine ru_iconst (0 : Int32) ddX1_become_27 rfl ?_
  refine ru_aload_n ddX1_become_28 rfl ?_
  refine ru_getR (r := 62) ddX1_become_29 flX1_15 rfl rfl ?_
  refine ru_iconst (0 : Int32) ddX1_become_32 rfl ?_
  refine ru_bipush (8 : Int32) ddX1_become_33 rfl ?_
  obtain ⟨A3, hv, h⟩ := ruB_inv h
  refine ru_acopy ddX1_become_35 caX1_22 (Nat.le_trans (m := 1) (by decide) hd) rfl rfl (Nat.le_of_ble_eq_true rfl) hv ?_
  clear hv
  exact ru_vretW ddX1_become_38 rfl h
theorem wX0_become {E : ruE} (d : Nat) (hd : 2 ≤ d) (A : ruA) {B : ruA} (h : fX0_become A = some B) : ruC E mmX0_become d [rurf E 32, rurf E 1] A (ruPv B) := by
  refine ruC.of (L := [some (rurf E 32), some (rurf E 1)]) (by decide) rfl (Nat.le_of_ble_eq_true rfl) rfl ?_
  unfold fX0_become at h
  refine ru_aload_n ddX0_become_0 rfl ?_
  refine ru_getR (r := 33) ddX0_become_1 flX0_10 rfl rfl ?_
  refine ru_aload_n ddX0_become_4 rfl ?_
  refine ru_getR (r := 2) ddX0_become_5 flX0_10 rfl rfl ?_
  obtain ⟨A1, hv, h⟩ := ruB_inv h
  refine ru_callVv (as := [rurf E 2]) (st := []) ddX0_become_8 cvX0_44 rfl (wX5_become 1 (Nat.le_refl _) A hv) rfl (Nat.le_trans (m := 2) (by decide) hd) (Nat.le_of_ble_eq_true rfl) ?_
  clear hv
  refine ru_aload_n ddX0_become_11 rfl ?_
  refine ru_getR (r := 40) ddX0_become_12 flX0_19 rfl rfl ?_
  refine ru_aload_n ddX0_become_15 rfl ?_
  refine ru_getR (r := 9) ddX0_become_16 flX0_19 rfl rfl ?_
  obtain ⟨A2, hv, h⟩ := ruB_inv h
  refine ru_callVv (as := [rurf E 9]) (st := []) ddX0_become_19 cvX0_48 rfl (wX6_become 1 (Nat.le_refl _) A1 hv) rfl (Nat.le_trans (m := 2) (by decide) hd) (Nat.le_of_ble_eq_true rfl) ?_
  clear hv
  refine ru_aload_n ddX0_become_22 rfl ?_
  refine ru_getR (r := 45) ddX0_become_23 flX0_26 rfl rfl ?_
  refine ru_aload_n ddX0_become_26 rfl ?_
  refine ru_getR (r := 14) ddX0_become_27 flX0_26 rfl rfl ?_
  obtain ⟨A3, hv, h⟩ := ruB_inv h
  refine ru_callVv (as := [rurf E 14]) (st := []) ddX0_become_30 cvX0_51 rfl (wX9_become 1 (Nat.le_refl _) A2 hv) rfl (Nat.le_trans (m := 2) (by decide) hd) (Nat.le_of_ble_eq_true rfl) ?_
  clear hv
  refine ru_aload_n ddX0_become_33 rfl ?_
  refine ru_getR (r := 54) ddX0_become_34 flX0_33 rfl rfl ?_
  refine ru_aload_n ddX0_become_37 rfl ?_
  refine ru_getR (r := 23) ddX0_become_38 flX0_33 rfl rfl ?_
  obtain ⟨A4, hv, h⟩ := ruB_inv h
  refine ru_callVv (as := [rurf E 23]) (st := []) ddX0_become_41 cvX0_54 rfl (wX2_become 1 (Nat.le_refl _) A3 hv) rfl (Nat.le_trans (m := 2) (by decide) hd) (Nat.le_of_ble_eq_true rfl) ?_
  clear hv
  refine ru_aload_n ddX0_become_44 rfl ?_
  refine ru_getR (r := 60) ddX0_become_45 flX0_40 rfl rfl ?_
  refine ru_aload_n ddX0_become_48 rfl ?_
  refine ru_getR (r := 29) ddX0_become_49 flX0_40 rfl rfl ?_
  obtain ⟨A5, hv, h⟩ := ruB_inv h
  refine ru_callVv (as := [rurf E 29]) (st := []) ddX0_become_52 cvX0_57 rfl (wX1_become 1 (Nat.le_refl _) A4 hv) rfl (Nat.le_trans (m := 2) (by decide) hd) (Nat.le_of_ble_eq_true rfl) ?_
  clear hv
  exact ru_vretW ddX0_become_55 rfl h
theorem wX10_image {E : ruE} (d : Nat) (hd : 3 ≤ d) (A : ruA) {r : Int32} {B : ruA} (h : fX10_image A = some (r, B)) : ruC E mmX10_image d [rurf E 0] A (ruPr r B) := by
  refine ruC.of (L := [some (rurf E 0)]) (by decide) rfl (Nat.le_of_ble_eq_true rfl) rfl ?_
  unfold fX10_image at h
  refine ru_aload_n ddX10_image_0 rfl ?_
  refine ru_getR (r := 32) ddX10_image_1 flX10_16 rfl rfl ?_
  refine ru_aload_n ddX10_image_4 rfl ?_
  refine ru_getR (r := 1) ddX10_image_5 flX10_12 rfl rfl ?_
  obtain ⟨A1, hv, h⟩ := ruB_inv h
  refine ru_callVv (as := [rurf E 1]) (st := []) ddX10_image_8 cvX10_365 rfl (wX0_become 2 (Nat.le_refl _) A hv) rfl (Nat.le_trans (m := 3) (by decide) hd) (Nat.le_of_ble_eq_true rfl) ?_
  clear hv
  refine ru_aload_n ddX10_image_11 rfl ?_
  refine ru_iconst (1 : Int32) ddX10_image_12 rfl ?_
  obtain ⟨A2, hv, h⟩ := ruB_inv h
  refine ru_putZ2 ddX10_image_13 flX10_19 fp10_2 rfl (Or.inr rfl) hv ?_
  clear hv
  refine ru_iconst (1 : Int32) ddX10_image_16 rfl ?_
  exact ru_iretW ddX10_image_17 rfl h
theorem wX5_become_1 {E : ruE} (d : Nat) (hd : 1 ≤ d) (A : ruA) {B : ruA} (h : fX5_become_1 A = some B) : ruC E mmX5_become d [rurf E 2, rurf E 33] A (ruPv B) := by
  refine ruC.of (L := [some (rurf E 2), some (rurf E 33)]) (by decide) rfl (Nat.le_of_ble_eq_true rfl) rfl ?_
  unfold fX5_become_1 at h
  refine ru_aload_n ddX5_become_0 rfl ?_
  refine ru_aload_n ddX5_become_1 rfl ?_
  refine ru_getI ddX5_become_2 flX5_30 rfl ?_
  obtain ⟨A1, hv, h⟩ := ruB_inv h
  refine ru_putI2 ddX5_become_5 flX5_30 fp5_0 rfl hv ?_
  clear hv
  refine ru_aload_n ddX5_become_8 rfl ?_
  refine ru_aload_n ddX5_become_9 rfl ?_
  refine ru_getI ddX5_become_10 flX5_34 rfl ?_
  obtain ⟨A2, hv, h⟩ := ruB_inv h
  refine ru_putI2 ddX5_become_13 flX5_34 fp5_1 rfl hv ?_
  clear hv
  refine ru_aload_n ddX5_become_16 rfl ?_
  refine ru_aload_n ddX5_become_17 rfl ?_
  refine ru_getI ddX5_become_18 flX5_37 rfl ?_
  obtain ⟨A3, hv, h⟩ := ruB_inv h
  refine ru_putI2 ddX5_become_21 flX5_37 fp5_2 rfl hv ?_
  clear hv
  refine ru_aload_n ddX5_become_24 rfl ?_
  refine ru_getR (r := 34) ddX5_become_25 flX5_9 rfl rfl ?_
  refine ru_iconst (0 : Int32) ddX5_become_28 rfl ?_
  refine ru_aload_n ddX5_become_29 rfl ?_
  refine ru_getR (r := 3) ddX5_become_30 flX5_9 rfl rfl ?_
  refine ru_iconst (0 : Int32) ddX5_become_33 rfl ?_
  refine ru_bipush (12 : Int32) ddX5_become_34 rfl ?_
  obtain ⟨A4, hv, h⟩ := ruB_inv h
  refine ru_acopy ddX5_become_36 caX5_40 (Nat.le_trans (m := 1) (by decide) hd) rfl rfl (Nat.le_of_ble_eq_true rfl) hv ?_
  clear hv
  refine ru_aload_n ddX5_become_39 rfl ?_
  refine ru_getR (r := 35) ddX5_become_40 flX5_15 rfl rfl ?_
  refine ru_iconst (0 : Int32) ddX5_become_43 rfl ?_
  refine ru_aload_n ddX5_become_44 rfl ?_
  refine ru_getR (r := 4) ddX5_become_45 flX5_15 rfl rfl ?_
  refine ru_iconst (0 : Int32) ddX5_become_48 rfl ?_
  refine ru_bipush (12 : Int32) ddX5_become_49 rfl ?_
  obtain ⟨A5, hv, h⟩ := ruB_inv h
  refine ru_acopy ddX5_become_51 caX5_40 (Nat.le_trans (m := 1) (by decide) hd) rfl rfl (Nat.le_of_ble_eq_true rfl) hv ?_
  clear hv
  refine ru_aload_n ddX5_become_54 rfl ?_
  refine ru_getR (r := 36) ddX5_become_55 flX5_18 rfl rfl ?_
  refine ru_iconst (0 : Int32) ddX5_become_58 rfl ?_
  refine ru_aload_n ddX5_become_59 rfl ?_
  refine ru_getR (r := 5) ddX5_become_60 flX5_18 rfl rfl ?_
  refine ru_iconst (0 : Int32) ddX5_become_63 rfl ?_
  refine ru_bipush (24 : Int32) ddX5_become_64 rfl ?_
  obtain ⟨A6, hv, h⟩ := ruB_inv h
  refine ru_acopy ddX5_become_66 caX5_40 (Nat.le_trans (m := 1) (by decide) hd) rfl rfl (Nat.le_of_ble_eq_true rfl) hv ?_
  clear hv
  refine ru_aload_n ddX5_become_69 rfl ?_
  refine ru_getR (r := 37) ddX5_become_70 flX5_21 rfl rfl ?_
  refine ru_iconst (0 : Int32) ddX5_become_73 rfl ?_
  refine ru_aload_n ddX5_become_74 rfl ?_
  refine ru_getR (r := 6) ddX5_become_75 flX5_21 rfl rfl ?_
  refine ru_iconst (0 : Int32) ddX5_become_78 rfl ?_
  refine ru_bipush (24 : Int32) ddX5_become_79 rfl ?_
  obtain ⟨A7, hv, h⟩ := ruB_inv h
  refine ru_acopy ddX5_become_81 caX5_40 (Nat.le_trans (m := 1) (by decide) hd) rfl rfl (Nat.le_of_ble_eq_true rfl) hv ?_
  clear hv
  refine ru_aload_n ddX5_become_84 rfl ?_
  refine ru_getR (r := 38) ddX5_become_85 flX5_24 rfl rfl ?_
  refine ru_iconst (0 : Int32) ddX5_become_88 rfl ?_
  refine ru_aload_n ddX5_become_89 rfl ?_
  refine ru_getR (r := 7) ddX5_become_90 flX5_24 rfl rfl ?_
  refine ru_iconst (0 : Int32) ddX5_become_93 rfl ?_
  refine ru_bipush (24 : Int32) ddX5_become_94 rfl ?_
  obtain ⟨A8, hv, h⟩ := ruB_inv h
  refine ru_acopy ddX5_become_96 caX5_40 (Nat.le_trans (m := 1) (by decide) hd) rfl rfl (Nat.le_of_ble_eq_true rfl) hv ?_
  clear hv
  refine ru_aload_n ddX5_become_99 rfl ?_
  refine ru_getR (r := 39) ddX5_become_100 flX5_27 rfl rfl ?_
  refine ru_iconst (0 : Int32) ddX5_become_103 rfl ?_
  refine ru_aload_n ddX5_become_104 rfl ?_
  refine ru_getR (r := 8) ddX5_become_105 flX5_27 rfl rfl ?_
  refine ru_iconst (0 : Int32) ddX5_become_108 rfl ?_
  refine ru_bipush (24 : Int32) ddX5_become_109 rfl ?_
  obtain ⟨A9, hv, h⟩ := ruB_inv h
  refine ru_acopy ddX5_become_111 caX5_40 (Nat.le_trans (m := 1) (by decide) hd) rfl rfl (Nat.le_of_ble_eq_true rfl) hv ?_
  clear hv
  exact ru_vretW ddX5_become_114 rfl h
theorem wX6_become_1_l2 {E : ruE} {d : Nat} (hd : 1 ≤ d) {β : Type} {Q : Option Value → ruA → Prop} {res : β} {k27 : ruA → Option (β)} (hk27 : ∀ (A : ruA), k27 A = some res → ruW E mmX6_become d Q 27 [some (rurf E 9), some (rurf E 40), none] [] A) : ∀ (n : Nat) (x2 : Int32) (A : ruA), fX6_become_1_l2 k27 n x2 A = some res → ruW E mmX6_become d Q 2 [some (rurf E 9), some (rurf E 40), some (.int x2)] [] A := by
  intro n
  induction n with
  | zero =>
    intro x2 A h
    exact absurd h (by rw [fX6_become_1_l2]; exact fun h => nomatch h)
  | succ n ih =>
    intro x2 A h
    rw [fX6_become_1_l2] at h
    refine ru_iload_n ddX6_become_2 rfl ?_
    refine ru_sipush (144 : Int32) ddX6_become_3 rfl ?_
    refine ru_icmp_ge 27 ddX6_become_6 (by decide) (fun hc => ?_) (fun hc => ?_)
    · rw [if_pos hc] at h
      refine ru_wk (L2 := [some (rurf E 9), some (rurf E 40), none]) ⟨rfl, rfl, trivial⟩ ?_
      exact hk27 A h
    · rw [if_neg hc] at h
      refine ru_aload_n ddX6_become_9 rfl ?_
      refine ru_getR (r := 10) ddX6_become_10 flX6_9 rfl rfl ?_
      refine ru_iload_n ddX6_become_13 rfl ?_
      refine ru_aload_n ddX6_become_14 rfl ?_
      refine ru_getR (r := 41) ddX6_become_15 flX6_9 rfl rfl ?_
      refine ru_iload_n ddX6_become_18 rfl ?_
      obtain ⟨v1, hv, h⟩ := ruB_inv h
      refine ru_zald ddX6_become_19 rfl hv ?_
      clear hv
      obtain ⟨A2, hv, h⟩ := ruB_inv h
      refine ru_zast ddX6_become_20 rfl hv ?_
      clear hv
      refine ru_iinc (x2 + (1 : Int32)) ddX6_become_21 (by decide) rfl rfl rfl rfl ?_
      refine ru_goto 2 ddX6_become_24 (by decide) ?_
      exact ih (x2 + (1 : Int32)) A2 h
theorem wX6_become_1 {E : ruE} (d : Nat) (hd : 1 ≤ d) (A : ruA) {B : ruA} (h : fX6_become_1 A = some B) : ruC E mmX6_become d [rurf E 9, rurf E 40] A (ruPv B) := by
  refine ruC.of (L := [some (rurf E 9), some (rurf E 40), none]) (by decide) rfl (Nat.le_of_ble_eq_true rfl) rfl ?_
  unfold fX6_become_1 at h
  refine ru_iconst (0 : Int32) ddX6_become_0 rfl ?_
  refine ru_istore_n ddX6_become_1 (by decide) rfl rfl ?_
  exact wX6_become_1_l2 hd (fun A3 h => by
        refine ru_aload_n ddX6_become_27 rfl ?_
        refine ru_getR (r := 42) ddX6_become_28 flX6_15 rfl rfl ?_
        refine ru_iconst (0 : Int32) ddX6_become_31 rfl ?_
        refine ru_aload_n ddX6_become_32 rfl ?_
        refine ru_getR (r := 11) ddX6_become_33 flX6_15 rfl rfl ?_
        refine ru_iconst (0 : Int32) ddX6_become_36 rfl ?_
        refine ru_sipush (1728 : Int32) ddX6_become_37 rfl ?_
        obtain ⟨A4, hv, h⟩ := ruB_inv h
        refine ru_acopy ddX6_become_40 caX6_25 (Nat.le_trans (m := 1) (by decide) hd) rfl rfl (Nat.le_of_ble_eq_true rfl) hv ?_
        clear hv
        refine ru_aload_n ddX6_become_43 rfl ?_
        refine ru_getR (r := 43) ddX6_become_44 flX6_19 rfl rfl ?_
        refine ru_iconst (0 : Int32) ddX6_become_47 rfl ?_
        refine ru_aload_n ddX6_become_48 rfl ?_
        refine ru_getR (r := 12) ddX6_become_49 flX6_19 rfl rfl ?_
        refine ru_iconst (0 : Int32) ddX6_become_52 rfl ?_
        refine ru_sipush (1728 : Int32) ddX6_become_53 rfl ?_
        obtain ⟨A5, hv, h⟩ := ruB_inv h
        refine ru_acopy ddX6_become_56 caX6_25 (Nat.le_trans (m := 1) (by decide) hd) rfl rfl (Nat.le_of_ble_eq_true rfl) hv ?_
        clear hv
        refine ru_aload_n ddX6_become_59 rfl ?_
        refine ru_getR (r := 44) ddX6_become_60 flX6_22 rfl rfl ?_
        refine ru_iconst (0 : Int32) ddX6_become_63 rfl ?_
        refine ru_aload_n ddX6_become_64 rfl ?_
        refine ru_getR (r := 13) ddX6_become_65 flX6_22 rfl rfl ?_
        refine ru_iconst (0 : Int32) ddX6_become_68 rfl ?_
        refine ru_sipush (432 : Int32) ddX6_become_69 rfl ?_
        obtain ⟨A6, hv, h⟩ := ruB_inv h
        refine ru_acopy ddX6_become_72 caX6_25 (Nat.le_trans (m := 1) (by decide) hd) rfl rfl (Nat.le_of_ble_eq_true rfl) hv ?_
        clear hv
        exact ru_vretW ddX6_become_75 rfl h) ruF (0 : Int32) A h
theorem wX9_become_1_l10 {E : ruE} {d : Nat} (hd : 1 ≤ d) {β : Type} {Q : Option Value → ruA → Prop} {res : β} {k53 : ruA → Option (β)} (hk53 : ∀ (A : ruA), k53 A = some res → ruW E mmX9_become d Q 53 [none, none, none] [] A) : ∀ (n : Nat) (x2 : Int32) (A : ruA), fX9_become_1_l10 k53 n x2 A = some res → ruW E mmX9_become d Q 10 [some (rurf E 14), some (rurf E 45), some (.int x2)] [] A := by
  intro n
  induction n with
  | zero =>
    intro x2 A h
    exact absurd h (by rw [fX9_become_1_l10]; exact fun h => nomatch h)
  | succ n ih =>
    intro x2 A h
    rw [fX9_become_1_l10] at h
    refine ru_iload_n ddX9_become_10 rfl ?_
    refine ru_bipush (6 : Int32) ddX9_become_11 rfl ?_
    refine ru_icmp_ge 53 ddX9_become_13 (by decide) (fun hc => ?_) (fun hc => ?_)
    · rw [if_pos hc] at h
      refine ru_wk (L2 := [none, none, none]) trivial ?_
      exact hk53 A h
    · rw [if_neg hc] at h
      refine ru_aload_n ddX9_become_16 rfl ?_
      refine ru_getR (r := 22) ddX9_become_17 flX9_16 rfl rfl ?_
      refine ru_iload_n ddX9_become_20 rfl ?_
      refine ru_aload_n ddX9_become_21 rfl ?_
      refine ru_getR (r := 53) ddX9_become_22 flX9_16 rfl rfl ?_
      refine ru_iload_n ddX9_become_25 rfl ?_
      obtain ⟨v2, hv, h⟩ := ruB_inv h
      refine ru_iald ddX9_become_26 rfl hv ?_
      clear hv
      obtain ⟨A3, hv, h⟩ := ruB_inv h
      refine ru_iast ddX9_become_27 rfl hv ?_
      clear hv
      refine ru_aload_n ddX9_become_28 rfl ?_
      refine ru_getR (r := 46) ddX9_become_29 flX9_11 rfl rfl ?_
      refine ru_iload_n ddX9_become_32 rfl ?_
      obtain ⟨c4, hv, h⟩ := ruB_inv h
      refine ru_aald4 ddX9_become_33 rfl hv ?_
      clear hv
      refine ru_iconst (0 : Int32) ddX9_become_34 rfl ?_
      refine ru_aload_n ddX9_become_35 rfl ?_
      refine ru_getR (r := 15) ddX9_become_36 flX9_11 rfl rfl ?_
      refine ru_iload_n ddX9_become_39 rfl ?_
      obtain ⟨c5, hv, h⟩ := ruB_inv h
      refine ru_aald4 ddX9_become_40 rfl hv ?_
      clear hv
      refine ru_iconst (0 : Int32) ddX9_become_41 rfl ?_
      refine ru_bipush (100 : Int32) ddX9_become_42 rfl ?_
      obtain ⟨n6, hn6, h⟩ := ruB_inv h
      obtain ⟨n7, hn7, h⟩ := ruB_inv h
      obtain ⟨A8, hv, h⟩ := ruB_inv h
      refine ru_acopy ddX9_become_44 caX9_24 (Nat.le_trans (m := 1) (by decide) hd) (rudI_eq hn6) (rudI_eq hn7) (Nat.le_of_ble_eq_true rfl) hv ?_
      clear hv
      refine ru_iinc (x2 + (1 : Int32)) ddX9_become_47 (by decide) rfl rfl rfl rfl ?_
      refine ru_goto 10 ddX9_become_50 (by decide) ?_
      exact ih (x2 + (1 : Int32)) A8 h
theorem wX9_become_1 {E : ruE} (d : Nat) (hd : 1 ≤ d) (A : ruA) {B : ruA} (h : fX9_become_1 A = some B) : ruC E mmX9_become d [rurf E 14, rurf E 45] A (ruPv B) := by
  refine ruC.of (L := [some (rurf E 14), some (rurf E 45), none]) (by decide) rfl (Nat.le_of_ble_eq_true rfl) rfl ?_
  unfold fX9_become_1 at h
  refine ru_aload_n ddX9_become_0 rfl ?_
  refine ru_aload_n ddX9_become_1 rfl ?_
  refine ru_getI ddX9_become_2 flX9_20 rfl ?_
  obtain ⟨A1, hv, h⟩ := ruB_inv h
  refine ru_putI2 ddX9_become_5 flX9_20 fp9_0 rfl hv ?_
  clear hv
  refine ru_iconst (0 : Int32) ddX9_become_8 rfl ?_
  refine ru_istore_n ddX9_become_9 (by decide) rfl rfl ?_
  exact wX9_become_1_l10 hd (fun A9 h => by
        exact ru_vretW ddX9_become_53 rfl h) ruF (0 : Int32) A1 h
theorem wX2_become_1 {E : ruE} (d : Nat) (hd : 1 ≤ d) (A : ruA) {B : ruA} (h : fX2_become_1 A = some B) : ruC E mmX2_become d [rurf E 23, rurf E 54] A (ruPv B) := by
  refine ruC.of (L := [some (rurf E 23), some (rurf E 54)]) (by decide) rfl (Nat.le_of_ble_eq_true rfl) rfl ?_
  unfold fX2_become_1 at h
  refine ru_aload_n ddX2_become_0 rfl ?_
  refine ru_aload_n ddX2_become_1 rfl ?_
  refine ru_getI ddX2_become_2 flX2_27 rfl ?_
  obtain ⟨A1, hv, h⟩ := ruB_inv h
  refine ru_putI2 ddX2_become_5 flX2_27 fp2_0 rfl hv ?_
  clear hv
  refine ru_aload_n ddX2_become_8 rfl ?_
  refine ru_getR (r := 55) ddX2_become_9 flX2_9 rfl rfl ?_
  refine ru_iconst (0 : Int32) ddX2_become_12 rfl ?_
  refine ru_aload_n ddX2_become_13 rfl ?_
  refine ru_getR (r := 24) ddX2_become_14 flX2_9 rfl rfl ?_
  refine ru_iconst (0 : Int32) ddX2_become_17 rfl ?_
  refine ru_bipush (30 : Int32) ddX2_become_18 rfl ?_
  obtain ⟨A2, hv, h⟩ := ruB_inv h
  refine ru_acopy ddX2_become_20 caX2_31 (Nat.le_trans (m := 1) (by decide) hd) rfl rfl (Nat.le_of_ble_eq_true rfl) hv ?_
  clear hv
  refine ru_aload_n ddX2_become_23 rfl ?_
  refine ru_getR (r := 56) ddX2_become_24 flX2_15 rfl rfl ?_
  refine ru_iconst (0 : Int32) ddX2_become_27 rfl ?_
  refine ru_aload_n ddX2_become_28 rfl ?_
  refine ru_getR (r := 25) ddX2_become_29 flX2_15 rfl rfl ?_
  refine ru_iconst (0 : Int32) ddX2_become_32 rfl ?_
  refine ru_bipush (30 : Int32) ddX2_become_33 rfl ?_
  obtain ⟨A3, hv, h⟩ := ruB_inv h
  refine ru_acopy ddX2_become_35 caX2_31 (Nat.le_trans (m := 1) (by decide) hd) rfl rfl (Nat.le_of_ble_eq_true rfl) hv ?_
  clear hv
  refine ru_aload_n ddX2_become_38 rfl ?_
  refine ru_getR (r := 57) ddX2_become_39 flX2_18 rfl rfl ?_
  refine ru_iconst (0 : Int32) ddX2_become_42 rfl ?_
  refine ru_aload_n ddX2_become_43 rfl ?_
  refine ru_getR (r := 26) ddX2_become_44 flX2_18 rfl rfl ?_
  refine ru_iconst (0 : Int32) ddX2_become_47 rfl ?_
  refine ru_bipush (30 : Int32) ddX2_become_48 rfl ?_
  obtain ⟨A4, hv, h⟩ := ruB_inv h
  refine ru_acopy ddX2_become_50 caX2_31 (Nat.le_trans (m := 1) (by decide) hd) rfl rfl (Nat.le_of_ble_eq_true rfl) hv ?_
  clear hv
  refine ru_aload_n ddX2_become_53 rfl ?_
  refine ru_getR (r := 58) ddX2_become_54 flX2_21 rfl rfl ?_
  refine ru_iconst (0 : Int32) ddX2_become_57 rfl ?_
  refine ru_aload_n ddX2_become_58 rfl ?_
  refine ru_getR (r := 27) ddX2_become_59 flX2_21 rfl rfl ?_
  refine ru_iconst (0 : Int32) ddX2_become_62 rfl ?_
  refine ru_bipush (30 : Int32) ddX2_become_63 rfl ?_
  obtain ⟨A5, hv, h⟩ := ruB_inv h
  refine ru_acopy ddX2_become_65 caX2_31 (Nat.le_trans (m := 1) (by decide) hd) rfl rfl (Nat.le_of_ble_eq_true rfl) hv ?_
  clear hv
  exact ru_vretW ddX2_become_68 rfl h
theorem wX1_become_1 {E : ruE} (d : Nat) (hd : 1 ≤ d) (A : ruA) {B : ruA} (h : fX1_become_1 A = some B) : ruC E mmX1_become d [rurf E 29, rurf E 60] A (ruPv B) := by
  refine ruC.of (L := [some (rurf E 29), some (rurf E 60)]) (by decide) rfl (Nat.le_of_ble_eq_true rfl) rfl ?_
  unfold fX1_become_1 at h
  refine ru_aload_n ddX1_become_0 rfl ?_
  refine ru_aload_n ddX1_become_1 rfl ?_
  refine ru_getI ddX1_become_2 flX1_18 rfl ?_
  obtain ⟨A1, hv, h⟩ := ruB_inv h
  refine ru_putI2 ddX1_become_5 flX1_18 fp1_0 rfl hv ?_
  clear hv
  refine ru_aload_n ddX1_become_8 rfl ?_
  refine ru_getR (r := 61) ddX1_become_9 flX1_9 rfl rfl ?_
  refine ru_iconst (0 : Int32) ddX1_become_12 rfl ?_
  refine ru_aload_n ddX1_become_13 rfl ?_
  refine ru_getR (r := 30) ddX1_become_14 flX1_9 rfl rfl ?_
  refine ru_iconst (0 : Int32) ddX1_become_17 rfl ?_
  refine ru_bipush (8 : Int32) ddX1_become_18 rfl ?_
  obtain ⟨A2, hv, h⟩ := ruB_inv h
  refine ru_acopy ddX1_become_20 caX1_22 (Nat.le_trans (m := 1) (by decide) hd) rfl rfl (Nat.le_of_ble_eq_true rfl) hv ?_
  clear hv
  refine ru_aload_n ddX1_become_23 rfl ?_
  refine ru_getR (r := 62) ddX1_become_24 flX1_15 rfl rfl ?_
  refine ru_iconst (0 : Int32) ddX1_become_27 rfl ?_
  refine ru_aload_n ddX1_become_28 rfl ?_
  refine ru_getR (r := 31) ddX1_become_29 flX1_15 rfl rfl ?_
  refine ru_iconst (0 : Int32) ddX1_become_32 rfl ?_
  refine ru_bipush (8 : Int32) ddX1_become_33 rfl ?_
  obtain ⟨A3, hv, h⟩ := ruB_inv h
  refine ru_acopy ddX1_become_35 caX1_22 (Nat.le_trans (m := 1) (by decide) hd) rfl rfl (Nat.le_of_ble_eq_true rfl) hv ?_
  clear hv
  exact ru_vretW ddX1_become_38 rfl h
theorem wX0_become_1 {E : ruE} (d : Nat) (hd : 2 ≤ d) (A : ruA) {B : ruA} (h : fX0_become_1 A = some B) : ruC E mmX0_become d [rurf E 1, rurf E 32] A (ruPv B) := by
  refine ruC.of (L := [some (rurf E 1), some (rurf E 32)]) (by decide) rfl (Nat.le_of_ble_eq_true rfl) rfl ?_
  unfold fX0_become_1 at h
  refine ru_aload_n ddX0_become_0 rfl ?_
  refine ru_getR (r := 2) ddX0_become_1 flX0_10 rfl rfl ?_
  refine ru_aload_n ddX0_become_4 rfl ?_
  refine ru_getR (r := 33) ddX0_become_5 flX0_10 rfl rfl ?_
  obtain ⟨A1, hv, h⟩ := ruB_inv h
  refine ru_callVv (as := [rurf E 33]) (st := []) ddX0_become_8 cvX0_44 rfl (wX5_become_1 1 (Nat.le_refl _) A hv) rfl (Nat.le_trans (m := 2) (by decide) hd) (Nat.le_of_ble_eq_true rfl) ?_
  clear hv
  refine ru_aload_n ddX0_become_11 rfl ?_
  refine ru_getR (r := 9) ddX0_become_12 flX0_19 rfl rfl ?_
  refine ru_aload_n ddX0_become_15 rfl ?_
  refine ru_getR (r := 40) ddX0_become_16 flX0_19 rfl rfl ?_
  obtain ⟨A2, hv, h⟩ := ruB_inv h
  refine ru_callVv (as := [rurf E 40]) (st := []) ddX0_become_19 cvX0_48 rfl (wX6_become_1 1 (Nat.le_refl _) A1 hv) rfl (Nat.le_trans (m := 2) (by decide) hd) (Nat.le_of_ble_eq_true rfl) ?_
  clear hv
  refine ru_aload_n ddX0_become_22 rfl ?_
  refine ru_getR (r := 14) ddX0_become_23 flX0_26 rfl rfl ?_
  refine ru_aload_n ddX0_become_26 rfl ?_
  refine ru_getR (r := 45) ddX0_become_27 flX0_26 rfl rfl ?_
  obtain ⟨A3, hv, h⟩ := ruB_inv h
  refine ru_callVv (as := [rurf E 45]) (st := []) ddX0_become_30 cvX0_51 rfl (wX9_become_1 1 (Nat.le_refl _) A2 hv) rfl (Nat.le_trans (m := 2) (by decide) hd) (Nat.le_of_ble_eq_true rfl) ?_
  clear hv
  refine ru_aload_n ddX0_become_33 rfl ?_
  refine ru_getR (r := 23) ddX0_become_34 flX0_33 rfl rfl ?_
  refine ru_aload_n ddX0_become_37 rfl ?_
  refine ru_getR (r := 54) ddX0_become_38 flX0_33 rfl rfl ?_
  obtain ⟨A4, hv, h⟩ := ruB_inv h
  refine ru_callVv (as := [rurf E 54]) (st := []) ddX0_become_41 cvX0_54 rfl (wX2_become_1 1 (Nat.le_refl _) A3 hv) rfl (Nat.le_trans (m := 2) (by decide) hd) (Nat.le_of_ble_eq_true rfl) ?_
  clear hv
  refine ru_aload_n ddX0_become_44 rfl ?_
  refine ru_getR (r := 29) ddX0_become_45 flX0_40 rfl rfl ?_
  refine ru_aload_n ddX0_become_48 rfl ?_
  refine ru_getR (r := 60) ddX0_become_49 flX0_40 rfl rfl ?_
  obtain ⟨A5, hv, h⟩ := ruB_inv h
  refine ru_callVv (as := [rurf E 60]) (st := []) ddX0_become_52 cvX0_57 rfl (wX1_become_1 1 (Nat.le_refl _) A4 hv) rfl (Nat.le_trans (m := 2) (by decide) hd) (Nat.le_of_ble_eq_true rfl) ?_
  clear hv
  exact ru_vretW ddX0_become_55 rfl h
theorem wX10_undo {E : ruE} (d : Nat) (hd : 3 ≤ d) (A : ruA) {r : Int32} {B : ruA} (h : fX10_undo A = some (r, B)) : ruC E mmX10_undo d [rurf E 0] A (ruPr r B) := by
  refine ruC.of (L := [some (rurf E 0)]) (by decide) rfl (Nat.le_of_ble_eq_true rfl) rfl ?_
  unfold fX10_undo at h
  refine ru_aload_n ddX10_undo_0 rfl ?_
  refine ru_getI ddX10_undo_1 flX10_19 rfl ?_
  refine ru_if_ne 14 ddX10_undo_4 (by decide) (fun hc => ?_) (fun hc => ?_)
  · rw [if_neg hc] at h
    refine ru_aload_n ddX10_undo_14 rfl ?_
    refine ru_getR (r := 1) ddX10_undo_15 flX10_12 rfl rfl ?_
    refine ru_aload_n ddX10_undo_18 rfl ?_
    refine ru_getR (r := 32) ddX10_undo_19 flX10_16 rfl rfl ?_
    obtain ⟨A1, hv, h⟩ := ruB_inv h
    refine ru_callVv (as := [rurf E 32]) (st := []) ddX10_undo_22 cvX10_365 rfl (wX0_become_1 2 (Nat.le_refl _) A hv) rfl (Nat.le_trans (m := 3) (by decide) hd) (Nat.le_of_ble_eq_true rfl) ?_
    clear hv
    refine ru_aload_n ddX10_undo_25 rfl ?_
    refine ru_getR (r := 2) ddX10_undo_26 flX10_27 rfl rfl ?_
    refine ru_getI ddX10_undo_29 flX10_140 rfl ?_
    exact ru_iretW ddX10_undo_32 rfl h
  · rw [if_pos hc] at h
    refine ru_aload_n ddX10_undo_7 rfl ?_
    refine ru_ldc (v := (-1000004 : Int32)) ddX10_undo_8 ckX10_202 ?_
    obtain ⟨v2, A3, hv, h⟩ := ruB2_inv h
    refine ru_callVi (as := [.int (-1000004 : Int32)]) (st := []) ddX10_undo_10 cvX10_82 rfl (wX10_finding 2 (Nat.le_refl _) (-1000004 : Int32) A hv) rfl (Nat.le_trans (m := 3) (by decide) hd) (Nat.le_of_ble_eq_true rfl) ?_
    clear hv
    exact ru_iretW ddX10_undo_13 rfl h
theorem wX10_tear {E : ruE} (d : Nat) (hd : 1 ≤ d) (A : ruA) {r : Int32} {B : ruA} (h : fX10_tear A = some (r, B)) : ruC E mmX10_tear d [rurf E 0] A (ruPr r B) := by
  refine ruC.of (L := [some (rurf E 0), none]) (by decide) rfl (Nat.le_of_ble_eq_true rfl) rfl ?_
  unfold fX10_tear at h
  refine ru_aload_n ddX10_tear_0 rfl ?_
  refine ru_getI ddX10_tear_1 flX10_19 rfl ?_
  refine ru_istore_n ddX10_tear_4 (by decide) rfl rfl ?_
  refine ru_aload_n ddX10_tear_5 rfl ?_
  refine ru_iconst (0 : Int32) ddX10_tear_6 rfl ?_
  obtain ⟨A1, hv, h⟩ := ruB_inv h
  refine ru_putZ2 ddX10_tear_7 flX10_19 fp10_2 rfl (Or.inl rfl) hv ?_
  clear hv
  refine ru_iload_n ddX10_tear_10 rfl ?_
  refine ru_if_eq 18 ddX10_tear_11 (by decide) (fun hc => ?_) (fun hc => ?_)
  · rw [if_pos hc] at h
    refine ru_iconst (0 : Int32) ddX10_tear_18 rfl ?_
    exact ru_iretW ddX10_tear_19 rfl h
  · rw [if_neg hc] at h
    refine ru_iconst (1 : Int32) ddX10_tear_14 rfl ?_
    refine ru_goto 19 ddX10_tear_15 (by decide) ?_
    exact ru_iretW ddX10_tear_19 rfl h
theorem wX6_howManyIn_l4 {E : ruE} {d : Nat} (hd : 2 ≤ d) {β : Type} {Q : Option Value → ruA → Prop} {res : β} (x1 : Int32) (A : ruA) {k32 : Int32 → Option (β)} (hk32 : ∀ (x2 : Int32), k32 x2 = some res → ruW E mmX6_howManyIn d Q 32 [none, none, some (.int x2), none] [] A) : ∀ (n : Nat) (x2 : Int32) (x3 : Int32), fX6_howManyIn_l4 x1 A k32 n x2 x3 = some res → ruW E mmX6_howManyIn d Q 4 [some (rurf E 9), some (.int x1), some (.int x2), some (.int x3)] [] A := by
  intro n
  induction n with
  | zero =>
    intro x2 x3 h
    exact absurd h (by rw [fX6_howManyIn_l4]; exact fun h => nomatch h)
  | succ n ih =>
    intro x2 x3 h
    rw [fX6_howManyIn_l4] at h
    refine ru_iload_n ddX6_howManyIn_4 rfl ?_
    refine ru_bipush (24 : Int32) ddX6_howManyIn_5 rfl ?_
    refine ru_icmp_ge 32 ddX6_howManyIn_7 (by decide) (fun hc => ?_) (fun hc => ?_)
    · rw [if_pos hc] at h
      refine ru_wk (L2 := [none, none, some (.int x2), none]) ⟨rfl, trivial⟩ ?_
      exact hk32 x2 h
    · rw [if_neg hc] at h
      refine ru_aload_n ddX6_howManyIn_10 rfl ?_
      refine ru_getR (r := 10) ddX6_howManyIn_11 flX6_9 rfl rfl ?_
      refine ru_iload_n ddX6_howManyIn_14 rfl ?_
      refine ru_iload_n ddX6_howManyIn_15 rfl ?_
      obtain ⟨v1, hv, h⟩ := ruB_inv h
      refine ru_callSi (as := [.int x3, .int x1]) (st := [rurf E 10]) ddX6_howManyIn_16 csX6_59 (wX6_place 1 (Nat.le_refl _) x3 x1 A hv) rfl (Nat.le_trans (m := 2) (by decide) hd) (Nat.le_of_ble_eq_true rfl) ?_
      clear hv
      obtain ⟨v2, hv, h⟩ := ruB_inv h
      refine ru_zald ddX6_howManyIn_19 rfl hv ?_
      clear hv
      obtain ⟨v3, hq, h⟩ := ruB_inv h
      have J : ruW E mmX6_howManyIn d Q 26 [some (rurf E 9), some (.int x1), some (.int v3), some (.int x3)] [] A := by
          refine ru_iinc (x3 + (1 : Int32)) ddX6_howManyIn_26 (by decide) rfl rfl rfl rfl ?_
          refine ru_goto 4 ddX6_howManyIn_29 (by decide) ?_
          exact ih v3 (x3 + (1 : Int32)) h
      replace h := hq
      clear hq
      refine ru_if_eq 26 ddX6_howManyIn_20 (by decide) (fun hc => ?_) (fun hc => ?_)
      · rw [if_pos hc] at h
        refine ru_wk (L2 := [some (rurf E 9), some (.int x1), some (.int x2), some (.int x3)]) ⟨rfl, rfl, rfl, rfl, trivial⟩ ?_
        obtain rfl := ruS1 h
        exact J
      · rw [if_neg hc] at h
        refine ru_iinc (x2 + (1 : Int32)) ddX6_howManyIn_23 (by decide) rfl rfl rfl rfl ?_
        refine ru_wk (L2 := [some (rurf E 9), some (.int x1), some (.int (x2 + (1 : Int32))), some (.int x3)]) ⟨rfl, rfl, rfl, rfl, trivial⟩ ?_
        obtain rfl := ruS1 h
        exact J
theorem wX6_howManyIn {E : ruE} (d : Nat) (hd : 2 ≤ d) (x1 : Int32) (A : ruA) {r : Int32} (h : fX6_howManyIn x1 A = some r) : ruC E mmX6_howManyIn d [rurf E 9, .int x1] A (ruPr r A) := by
  refine ruC.of (L := [some (rurf E 9), some (.int x1), none, none]) (by decide) rfl (Nat.le_of_ble_eq_true rfl) rfl ?_
  unfold fX6_howManyIn at h
  refine ru_iconst (0 : Int32) ddX6_howManyIn_0 rfl ?_
  refine ru_istore_n ddX6_howManyIn_1 (by decide) rfl rfl ?_
  refine ru_iconst (0 : Int32) ddX6_howManyIn_2 rfl ?_
  refine ru_istore_n ddX6_howManyIn_3 (by decide) rfl rfl ?_
  exact wX6_howManyIn_l4 hd x1 A (fun v4 h => by
        refine ru_iload_n ddX6_howManyIn_32 rfl ?_
        exact ru_iretP ddX6_howManyIn_33 rfl h) ruF (0 : Int32) (0 : Int32) h
theorem wX6_howMany_l4 {E : ruE} {d : Nat} (hd : 3 ≤ d) {β : Type} {Q : Option Value → ruA → Prop} {res : β} (A : ruA) {k24 : Int32 → Option (β)} (hk24 : ∀ (x1 : Int32), k24 x1 = some res → ruW E mmX6_howMany d Q 24 [none, some (.int x1), none] [] A) : ∀ (n : Nat) (x1 : Int32) (x2 : Int32), fX6_howMany_l4 A k24 n x1 x2 = some res → ruW E mmX6_howMany d Q 4 [some (rurf E 9), some (.int x1), some (.int x2)] [] A := by
  intro n
  induction n with
  | zero =>
    intro x1 x2 h
    exact absurd h (by rw [fX6_howMany_l4]; exact fun h => nomatch h)
  | succ n ih =>
    intro x1 x2 h
    rw [fX6_howMany_l4] at h
    refine ru_iload_n ddX6_howMany_4 rfl ?_
    refine ru_bipush (6 : Int32) ddX6_howMany_5 rfl ?_
    refine ru_icmp_ge 24 ddX6_howMany_7 (by decide) (fun hc => ?_) (fun hc => ?_)
    · rw [if_pos hc] at h
      refine ru_wk (L2 := [none, some (.int x1), none]) ⟨rfl, trivial⟩ ?_
      exact hk24 x1 h
    · rw [if_neg hc] at h
      refine ru_iload_n ddX6_howMany_10 rfl ?_
      refine ru_aload_n ddX6_howMany_11 rfl ?_
      refine ru_iload_n ddX6_howMany_12 rfl ?_
      obtain ⟨v1, hv, h⟩ := ruB_inv h
      refine ru_callVi (as := [.int x2]) (st := [.int x1]) ddX6_howMany_13 cvX6_62 rfl (wX6_howManyIn 2 (Nat.le_refl _) x2 A hv) rfl (Nat.le_trans (m := 3) (by decide) hd) (Nat.le_of_ble_eq_true rfl) ?_
      clear hv
      refine ru_iadd ddX6_howMany_16 ?_
      refine ru_istore_n ddX6_howMany_17 (by decide) rfl rfl ?_
      refine ru_iinc (x2 + (1 : Int32)) ddX6_howMany_18 (by decide) rfl rfl rfl rfl ?_
      refine ru_goto 4 ddX6_howMany_21 (by decide) ?_
      exact ih (x1 + v1) (x2 + (1 : Int32)) h
theorem wX6_howMany {E : ruE} (d : Nat) (hd : 3 ≤ d) (A : ruA) {r : Int32} (h : fX6_howMany A = some r) : ruC E mmX6_howMany d [rurf E 9] A (ruPr r A) := by
  refine ruC.of (L := [some (rurf E 9), none, none]) (by decide) rfl (Nat.le_of_ble_eq_true rfl) rfl ?_
  unfold fX6_howMany at h
  refine ru_iconst (0 : Int32) ddX6_howMany_0 rfl ?_
  refine ru_istore_n ddX6_howMany_1 (by decide) rfl rfl ?_
  refine ru_iconst (0 : Int32) ddX6_howMany_2 rfl ?_
  refine ru_istore_n ddX6_howMany_3 (by decide) rfl rfl ?_
  exact wX6_howMany_l4 hd A (fun v2 h => by
        refine ru_iload_n ddX6_howMany_24 rfl ?_
        exact ru_iretP ddX6_howMany_25 rfl h) ruF (0 : Int32) (0 : Int32) h
theorem wX6_allFilled_l4 {E : ruE} {d : Nat} (hd : 3 ≤ d) {β : Type} {Q : Option Value → ruA → Prop} {res : β} (A : ruA) {k34 : Int32 → Option (β)} (hk34 : ∀ (x1 : Int32), k34 x1 = some res → ruW E mmX6_allFilled d Q 34 [none, some (.int x1), none] [] A) : ∀ (n : Nat) (x1 : Int32) (x2 : Int32), fX6_allFilled_l4 A k34 n x1 x2 = some res → ruW E mmX6_allFilled d Q 4 [some (rurf E 9), some (.int x1), some (.int x2)] [] A := by
  intro n
  induction n with
  | zero =>
    intro x1 x2 h
    exact absurd h (by rw [fX6_allFilled_l4]; exact fun h => nomatch h)
  | succ n ih =>
    intro x1 x2 h
    rw [fX6_allFilled_l4] at h
    refine ru_iload_n ddX6_allFilled_4 rfl ?_
    refine ru_sipush (144 : Int32) ddX6_allFilled_5 rfl ?_
    refine ru_icmp_ge 34 ddX6_allFilled_8 (by decide) (fun hc => ?_) (fun hc => ?_)
    · rw [if_pos hc] at h
      refine ru_wk (L2 := [none, some (.int x1), none]) ⟨rfl, trivial⟩ ?_
      exact hk34 x1 h
    · rw [if_neg hc] at h
      refine ru_aload_n ddX6_allFilled_11 rfl ?_
      refine ru_getR (r := 10) ddX6_allFilled_12 flX6_9 rfl rfl ?_
      refine ru_iload_n ddX6_allFilled_15 rfl ?_
      obtain ⟨v1, hv, h⟩ := ruB_inv h
      refine ru_zald ddX6_allFilled_16 rfl hv ?_
      clear hv
      obtain ⟨v2, hq, h⟩ := ruB_inv h
      have J : ruW E mmX6_allFilled d Q 28 [some (rurf E 9), some (.int v2), some (.int x2)] [] A := by
          refine ru_iinc (x2 + (1 : Int32)) ddX6_allFilled_28 (by decide) rfl rfl rfl rfl ?_
          refine ru_goto 4 ddX6_allFilled_31 (by decide) ?_
          exact ih v2 (x2 + (1 : Int32)) h
      replace h := hq
      clear hq
      refine ru_if_eq 28 ddX6_allFilled_17 (by decide) (fun hc => ?_) (fun hc => ?_)
      · rw [if_pos hc] at h
        refine ru_wk (L2 := [some (rurf E 9), some (.int x1), some (.int x2)]) ⟨rfl, rfl, rfl, trivial⟩ ?_
        obtain rfl := ruS1 h
        exact J
      · rw [if_neg hc] at h
        refine ru_iload_n ddX6_allFilled_20 rfl ?_
        refine ru_aload_n ddX6_allFilled_21 rfl ?_
        refine ru_iload_n ddX6_allFilled_22 rfl ?_
        obtain ⟨v3, hv, h⟩ := ruB_inv h
        refine ru_callVi (as := [.int x2]) (st := [.int x1]) ddX6_allFilled_23 cvX6_66 rfl (wX6_filled 2 (Nat.le_refl _) x2 A hv) rfl (Nat.le_trans (m := 3) (by decide) hd) (Nat.le_of_ble_eq_true rfl) ?_
        clear hv
        refine ru_iadd ddX6_allFilled_26 ?_
        refine ru_istore_n ddX6_allFilled_27 (by decide) rfl rfl ?_
        refine ru_wk (L2 := [some (rurf E 9), some (.int (x1 + v3)), some (.int x2)]) ⟨rfl, rfl, rfl, trivial⟩ ?_
        obtain rfl := ruS1 h
        exact J
theorem wX6_allFilled {E : ruE} (d : Nat) (hd : 3 ≤ d) (A : ruA) {r : Int32} (h : fX6_allFilled A = some r) : ruC E mmX6_allFilled d [rurf E 9] A (ruPr r A) := by
  refine ruC.of (L := [some (rurf E 9), none, none]) (by decide) rfl (Nat.le_of_ble_eq_true rfl) rfl ?_
  unfold fX6_allFilled at h
  refine ru_iconst (0 : Int32) ddX6_allFilled_0 rfl ?_
  refine ru_istore_n ddX6_allFilled_1 (by decide) rfl rfl ?_
  refine ru_iconst (0 : Int32) ddX6_allFilled_2 rfl ?_
  refine ru_istore_n ddX6_allFilled_3 (by decide) rfl rfl ?_
  exact wX6_allFilled_l4 hd A (fun v4 h => by
        refine ru_iload_n ddX6_allFilled_34 rfl ?_
        exact ru_iretP ddX6_allFilled_35 rfl h) ruF (0 : Int32) (0 : Int32) h
theorem wX6_allRights_l4 {E : ruE} {d : Nat} (hd : 3 ≤ d) {β : Type} {Q : Option Value → ruA → Prop} {res : β} (A : ruA) {k35 : Int32 → Option (β)} (hk35 : ∀ (x2 : Int32), k35 x2 = some res → ruW E mmX6_allRights d Q 35 [none, none, some (.int x2), none] [] A) : ∀ (n : Nat) (x2 : Int32) (x3 : Int32), fX6_allRights_l4 A k35 n x2 x3 = some res → ruW E mmX6_allRights d Q 4 [some (rurf E 9), some (rurf E 3), some (.int x2), some (.int x3)] [] A := by
  intro n
  induction n with
  | zero =>
    intro x2 x3 h
    exact absurd h (by rw [fX6_allRights_l4]; exact fun h => nomatch h)
  | succ n ih =>
    intro x2 x3 h
    rw [fX6_allRights_l4] at h
    refine ru_iload_n ddX6_allRights_4 rfl ?_
    refine ru_sipush (144 : Int32) ddX6_allRights_5 rfl ?_
    refine ru_icmp_ge 35 ddX6_allRights_8 (by decide) (fun hc => ?_) (fun hc => ?_)
    · rw [if_pos hc] at h
      refine ru_wk (L2 := [none, none, some (.int x2), none]) ⟨rfl, trivial⟩ ?_
      exact hk35 x2 h
    · rw [if_neg hc] at h
      refine ru_aload_n ddX6_allRights_11 rfl ?_
      refine ru_getR (r := 10) ddX6_allRights_12 flX6_9 rfl rfl ?_
      refine ru_iload_n ddX6_allRights_15 rfl ?_
      obtain ⟨v1, hv, h⟩ := ruB_inv h
      refine ru_zald ddX6_allRights_16 rfl hv ?_
      clear hv
      obtain ⟨v2, hq, h⟩ := ruB_inv h
      have J : ruW E mmX6_allRights d Q 29 [some (rurf E 9), some (rurf E 3), some (.int v2), some (.int x3)] [] A := by
          refine ru_iinc (x3 + (1 : Int32)) ddX6_allRights_29 (by decide) rfl rfl rfl rfl ?_
          refine ru_goto 4 ddX6_allRights_32 (by decide) ?_
          exact ih v2 (x3 + (1 : Int32)) h
      replace h := hq
      clear hq
      refine ru_if_eq 29 ddX6_allRights_17 (by decide) (fun hc => ?_) (fun hc => ?_)
      · rw [if_pos hc] at h
        refine ru_wk (L2 := [some (rurf E 9), some (rurf E 3), some (.int x2), some (.int x3)]) ⟨rfl, rfl, rfl, rfl, trivial⟩ ?_
        obtain rfl := ruS1 h
        exact J
      · rw [if_neg hc] at h
        refine ru_iload_n ddX6_allRights_20 rfl ?_
        refine ru_aload_n ddX6_allRights_21 rfl ?_
        refine ru_iload_n ddX6_allRights_22 rfl ?_
        refine ru_aload_n ddX6_allRights_23 rfl ?_
        obtain ⟨v3, hv, h⟩ := ruB_inv h
        refine ru_callVi (as := [.int x3, rurf E 3]) (st := [.int x2]) ddX6_allRights_24 cvX6_69 rfl (wX6_rights 2 (Nat.le_refl _) x3 A hv) rfl (Nat.le_trans (m := 3) (by decide) hd) (Nat.le_of_ble_eq_true rfl) ?_
        clear hv
        refine ru_iadd ddX6_allRights_27 ?_
        refine ru_istore_n ddX6_allRights_28 (by decide) rfl rfl ?_
        refine ru_wk (L2 := [some (rurf E 9), some (rurf E 3), some (.int (x2 + v3)), some (.int x3)]) ⟨rfl, rfl, rfl, rfl, trivial⟩ ?_
        obtain rfl := ruS1 h
        exact J
theorem wX6_allRights {E : ruE} (d : Nat) (hd : 3 ≤ d) (A : ruA) {r : Int32} (h : fX6_allRights A = some r) : ruC E mmX6_allRights d [rurf E 9, rurf E 3] A (ruPr r A) := by
  refine ruC.of (L := [some (rurf E 9), some (rurf E 3), none, none]) (by decide) rfl (Nat.le_of_ble_eq_true rfl) rfl ?_
  unfold fX6_allRights at h
  refine ru_iconst (0 : Int32) ddX6_allRights_0 rfl ?_
  refine ru_istore_n ddX6_allRights_1 (by decide) rfl rfl ?_
  refine ru_iconst (0 : Int32) ddX6_allRights_2 rfl ?_
  refine ru_istore_n ddX6_allRights_3 (by decide) rfl rfl ?_
  exact wX6_allRights_l4 hd A (fun v4 h => by
        refine ru_iload_n ddX6_allRights_35 rfl ?_
        exact ru_iretP ddX6_allRights_36 rfl h) ruF (0 : Int32) (0 : Int32) h
theorem wX10_count {E : ruE} (d : Nat) (hd : 4 ≤ d) (x1 : Int32) (A : ruA) {r : Int32} {B : ruA} (h : fX10_count x1 A = some (r, B)) : ruC E mmX10_count d [rurf E 0, .int x1] A (ruPr r B) := by
  refine ruC.of (L := [some (rurf E 0), some (.int x1)]) (by decide) rfl (Nat.le_of_ble_eq_true rfl) rfl ?_
  unfold fX10_count at h
  refine ru_iload_n ddX10_count_0 rfl ?_
  by_cases hc0 : x1 = (0 : Int32)
  · rw [if_pos hc0] at h
    refine ru_tabC 60 ddX10_count_1 hc0 ⟨by decide, by decide, _, rfl, by decide⟩ ?_
    refine ru_aload_n ddX10_count_60 rfl ?_
    refine ru_getR (r := 2) ddX10_count_61 flX10_27 rfl rfl ?_
    refine ru_getI ddX10_count_64 flX10_94 rfl ?_
    exact ru_iretW ddX10_count_67 rfl h
  · rw [if_neg hc0] at h
    by_cases hc1 : x1 = (1 : Int32)
    · rw [if_pos hc1] at h
      refine ru_tabC 68 ddX10_count_1 hc1 ⟨by decide, by decide, _, rfl, by decide⟩ ?_
      refine ru_aload_n ddX10_count_68 rfl ?_
      refine ru_getR (r := 2) ddX10_count_69 flX10_27 rfl rfl ?_
      refine ru_getI ddX10_count_72 flX10_106 rfl ?_
      exact ru_iretW ddX10_count_75 rfl h
    · rw [if_neg hc1] at h
      by_cases hc2 : x1 = (2 : Int32)
      · rw [if_pos hc2] at h
        refine ru_tabC 76 ddX10_count_1 hc2 ⟨by decide, by decide, _, rfl, by decide⟩ ?_
        refine ru_aload_n ddX10_count_76 rfl ?_
        refine ru_getR (r := 9) ddX10_count_77 flX10_32 rfl rfl ?_
        refine ru_aload_n ddX10_count_80 rfl ?_
        refine ru_getR (r := 2) ddX10_count_81 flX10_27 rfl rfl ?_
        refine ru_getI ddX10_count_84 flX10_140 rfl ?_
        obtain ⟨v1, hv, h⟩ := ruB_inv h
        refine ru_callVi (as := [.int (A.1 2 0)]) (st := []) ddX10_count_87 cvX10_369 rfl (wX6_howManyIn 2 (Nat.le_refl _) (A.1 2 0) A hv) rfl (Nat.le_trans (m := 4) (by decide) hd) (Nat.le_of_ble_eq_true rfl) ?_
        clear hv
        exact ru_iretW ddX10_count_90 rfl h
      · rw [if_neg hc2] at h
        by_cases hc3 : x1 = (3 : Int32)
        · rw [if_pos hc3] at h
          refine ru_tabC 91 ddX10_count_1 hc3 ⟨by decide, by decide, _, rfl, by decide⟩ ?_
          refine ru_aload_n ddX10_count_91 rfl ?_
          refine ru_getR (r := 9) ddX10_count_92 flX10_32 rfl rfl ?_
          obtain ⟨v2, hv, h⟩ := ruB_inv h
          refine ru_callVi (as := []) (st := []) ddX10_count_95 cvX10_372 rfl (wX6_howMany 3 (Nat.le_refl _) A hv) rfl (Nat.le_trans (m := 4) (by decide) hd) (Nat.le_of_ble_eq_true rfl) ?_
          clear hv
          exact ru_iretW ddX10_count_98 rfl h
        · rw [if_neg hc3] at h
          by_cases hc4 : x1 = (4 : Int32)
          · rw [if_pos hc4] at h
            refine ru_tabC 99 ddX10_count_1 hc4 ⟨by decide, by decide, _, rfl, by decide⟩ ?_
            refine ru_aload_n ddX10_count_99 rfl ?_
            refine ru_getR (r := 1) ddX10_count_100 flX10_12 rfl rfl ?_
            refine ru_getR (r := 14) ddX10_count_103 flX10_280 rfl rfl ?_
            refine ru_getI ddX10_count_106 flX10_284 rfl ?_
            exact ru_iretW ddX10_count_109 rfl h
          · rw [if_neg hc4] at h
            by_cases hc5 : x1 = (5 : Int32)
            · rw [if_pos hc5] at h
              refine ru_tabC 110 ddX10_count_1 hc5 ⟨by decide, by decide, _, rfl, by decide⟩ ?_
              refine ru_aload_n ddX10_count_110 rfl ?_
              refine ru_getR (r := 1) ddX10_count_111 flX10_12 rfl rfl ?_
              refine ru_getR (r := 29) ddX10_count_114 flX10_331 rfl rfl ?_
              refine ru_getI ddX10_count_117 flX10_335 rfl ?_
              exact ru_iretW ddX10_count_120 rfl h
            · rw [if_neg hc5] at h
              by_cases hc6 : x1 = (6 : Int32)
              · rw [if_pos hc6] at h
                refine ru_tabC 121 ddX10_count_1 hc6 ⟨by decide, by decide, _, rfl, by decide⟩ ?_
                refine ru_aload_n ddX10_count_121 rfl ?_
                refine ru_getR (r := 1) ddX10_count_122 flX10_12 rfl rfl ?_
                refine ru_getR (r := 23) ddX10_count_125 flX10_312 rfl rfl ?_
                refine ru_getI ddX10_count_128 flX10_315 rfl ?_
                exact ru_iretW ddX10_count_131 rfl h
              · rw [if_neg hc6] at h
                by_cases hc7 : x1 = (7 : Int32)
                · rw [if_pos hc7] at h
                  refine ru_tabC 132 ddX10_count_1 hc7 ⟨by decide, by decide, _, rfl, by decide⟩ ?_
                  refine ru_aload_n ddX10_count_132 rfl ?_
                  refine ru_getI ddX10_count_133 flX10_56 rfl ?_
                  exact ru_iretW ddX10_count_136 rfl h
                · rw [if_neg hc7] at h
                  by_cases hc8 : x1 = (8 : Int32)
                  · rw [if_pos hc8] at h
                    refine ru_tabC 137 ddX10_count_1 hc8 ⟨by decide, by decide, _, rfl, by decide⟩ ?_
                    refine ru_aload_n ddX10_count_137 rfl ?_
                    refine ru_getR (r := 2) ddX10_count_138 flX10_27 rfl rfl ?_
                    refine ru_getI ddX10_count_141 flX10_140 rfl ?_
                    exact ru_iretW ddX10_count_144 rfl h
                  · rw [if_neg hc8] at h
                    by_cases hc9 : x1 = (9 : Int32)
                    · rw [if_pos hc9] at h
                      refine ru_tabC 145 ddX10_count_1 hc9 ⟨by decide, by decide, _, rfl, by decide⟩ ?_
                      refine ru_aload_n ddX10_count_145 rfl ?_
                      refine ru_getR (r := 9) ddX10_count_146 flX10_32 rfl rfl ?_
                      obtain ⟨v3, hv, h⟩ := ruB_inv h
                      refine ru_callVi (as := []) (st := []) ddX10_count_149 cvX10_376 rfl (wX6_allFilled 3 (Nat.le_refl _) A hv) rfl (Nat.le_trans (m := 4) (by decide) hd) (Nat.le_of_ble_eq_true rfl) ?_
                      clear hv
                      exact ru_iretW ddX10_count_152 rfl h
                    · rw [if_neg hc9] at h
                      by_cases hc10 : x1 = (10 : Int32)
                      · rw [if_pos hc10] at h
                        refine ru_tabC 153 ddX10_count_1 hc10 ⟨by decide, by decide, _, rfl, by decide⟩ ?_
                        refine ru_aload_n ddX10_count_153 rfl ?_
                        refine ru_getR (r := 9) ddX10_count_154 flX10_32 rfl rfl ?_
                        refine ru_aload_n ddX10_count_157 rfl ?_
                        refine ru_getR (r := 2) ddX10_count_158 flX10_27 rfl rfl ?_
                        refine ru_getR (r := 3) ddX10_count_161 flX10_86 rfl rfl ?_
                        obtain ⟨v4, hv, h⟩ := ruB_inv h
                        refine ru_callVi (as := [rurf E 3]) (st := []) ddX10_count_164 cvX10_379 rfl (wX6_allRights 3 (Nat.le_refl _) A hv) rfl (Nat.le_trans (m := 4) (by decide) hd) (Nat.le_of_ble_eq_true rfl) ?_
                        clear hv
                        exact ru_iretW ddX10_count_167 rfl h
                      · rw [if_neg hc10] at h
                        refine ru_tabD 168 ddX10_count_1 (fun j h9 => ?_) (by decide) ?_
                        · have h8 : j = 0 ∨ j = 1 ∨ j = 2 ∨ j = 3 ∨ j = 4 ∨ j = 5 ∨ j = 6 ∨ j = 7 ∨ j = 8 ∨ j = 9 ∨ j = 10 := by omega
                          rcases h8 with rfl | rfl | rfl | rfl | rfl | rfl | rfl | rfl | rfl | rfl | rfl
                          · exact fun e => hc0 (e.trans (by decide))
                          · exact fun e => hc1 (e.trans (by decide))
                          · exact fun e => hc2 (e.trans (by decide))
                          · exact fun e => hc3 (e.trans (by decide))
                          · exact fun e => hc4 (e.trans (by decide))
                          · exact fun e => hc5 (e.trans (by decide))
                          · exact fun e => hc6 (e.trans (by decide))
                          · exact fun e => hc7 (e.trans (by decide))
                          · exact fun e => hc8 (e.trans (by decide))
                          · exact fun e => hc9 (e.trans (by decide))
                          · exact fun e => hc10 (e.trans (by decide))
                        refine ru_aload_n ddX10_count_168 rfl ?_
                        refine ru_ldc (v := (-1000001 : Int32)) ddX10_count_169 ckX10_81 ?_
                        obtain ⟨v5, A6, hv, h⟩ := ruB2_inv h
                        refine ru_callVi (as := [.int (-1000001 : Int32)]) (st := []) ddX10_count_171 cvX10_82 rfl (wX10_finding 2 (Nat.le_refl _) (-1000001 : Int32) A hv) rfl (Nat.le_trans (m := 4) (by decide) hd) (Nat.le_of_ble_eq_true rfl) ?_
                        clear hv
                        exact ru_iretW ddX10_count_174 rfl h
