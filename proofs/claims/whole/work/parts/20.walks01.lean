theorem wX10_as {E : ruE} (d : Nat) (hd : 3 ≤ d) (x1 : Int32) (x2 : Int32) (x3 : Int32) (x4 : Int32) (A : ruA) {r : Int32} {B : ruA} (h : fX10_as x1 x2 x3 x4 A = some (r, B)) : ruC E mmX10_as d [rurf E 0, .int x1, .int x2, .int x3, .int x4] A (ruPr r B) := by
  refine ruC.of (L := [some (rurf E 0), some (.int x1), some (.int x2), some (.int x3), some (.int x4), none]) (by decide) rfl (Nat.le_of_ble_eq_true rfl) rfl ?_
  unfold fX10_as at h
  refine ru_aload_n ddX10_as_0 rfl ?_
  refine ru_iload_n ddX10_as_1 rfl ?_
  obtain ⟨v1, hv, h⟩ := ruB_inv h
  refine ru_callVi (as := [.int x1]) (st := []) ddX10_as_2 cvX10_113 rfl (wX10_isChild 2 (Nat.le_refl _) x1 A hv) rfl (Nat.le_trans (m := 3) (by decide) hd) (Nat.le_of_ble_eq_true rfl) ?_
  clear hv
  refine ru_if_eq 30 ddX10_as_5 (by decide) (fun hc => ?_) (fun hc => ?_)
  · rw [if_pos hc] at h
    refine ru_aload_n ddX10_as_30 rfl ?_
    refine ru_ldc (v := (-1000001 : Int32)) ddX10_as_31 ckX10_81 ?_
    obtain ⟨v2, A3, hv, h⟩ := ruB2_inv h
    refine ru_callVi (as := [.int (-1000001 : Int32)]) (st := []) ddX10_as_33 cvX10_82 rfl (wX10_finding 2 (Nat.le_refl _) (-1000001 : Int32) A hv) rfl (Nat.le_trans (m := 3) (by decide) hd) (Nat.le_of_ble_eq_true rfl) ?_
    clear hv
    exact ru_iretW ddX10_as_36 rfl h
  · rw [if_neg hc] at h
    refine ru_iload_n ddX10_as_8 rfl ?_
    obtain ⟨v4, hv, h⟩ := ruB_inv h
    refine ru_callSi (as := [.int x2]) (st := []) ddX10_as_9 csX10_203 (wX10_isYear 2 (Nat.le_refl _) x2 A hv) rfl (Nat.le_trans (m := 3) (by decide) hd) (Nat.le_of_ble_eq_true rfl) ?_
    clear hv
    refine ru_if_eq 30 ddX10_as_12 (by decide) (fun hc => ?_) (fun hc => ?_)
    · rw [if_pos hc] at h
      refine ru_aload_n ddX10_as_30 rfl ?_
      refine ru_ldc (v := (-1000001 : Int32)) ddX10_as_31 ckX10_81 ?_
      obtain ⟨v5, A6, hv, h⟩ := ruB2_inv h
      refine ru_callVi (as := [.int (-1000001 : Int32)]) (st := []) ddX10_as_33 cvX10_82 rfl (wX10_finding 2 (Nat.le_refl _) (-1000001 : Int32) A hv) rfl (Nat.le_trans (m := 3) (by decide) hd) (Nat.le_of_ble_eq_true rfl) ?_
      clear hv
      exact ru_iretW ddX10_as_36 rfl h
    · rw [if_neg hc] at h
      refine ru_iload_n ddX10_as_15 rfl ?_
      obtain ⟨v7, hv, h⟩ := ruB_inv h
      refine ru_callSi (as := [.int x3]) (st := []) ddX10_as_16 csX10_73 (wX10_isQuestion 2 (Nat.le_refl _) x3 A hv) rfl (Nat.le_trans (m := 3) (by decide) hd) (Nat.le_of_ble_eq_true rfl) ?_
      clear hv
      refine ru_if_eq 30 ddX10_as_19 (by decide) (fun hc => ?_) (fun hc => ?_)
      · rw [if_pos hc] at h
        refine ru_aload_n ddX10_as_30 rfl ?_
        refine ru_ldc (v := (-1000001 : Int32)) ddX10_as_31 ckX10_81 ?_
        obtain ⟨v8, A9, hv, h⟩ := ruB2_inv h
        refine ru_callVi (as := [.int (-1000001 : Int32)]) (st := []) ddX10_as_33 cvX10_82 rfl (wX10_finding 2 (Nat.le_refl _) (-1000001 : Int32) A hv) rfl (Nat.le_trans (m := 3) (by decide) hd) (Nat.le_of_ble_eq_true rfl) ?_
        clear hv
        exact ru_iretW ddX10_as_36 rfl h
      · rw [if_neg hc] at h
        refine ru_iload ddX10_as_22 rfl ?_
        obtain ⟨v10, hv, h⟩ := ruB_inv h
        refine ru_callSi (as := [.int x4]) (st := []) ddX10_as_24 csX10_184 (wX10_isKind 2 (Nat.le_refl _) x4 A hv) rfl (Nat.le_trans (m := 3) (by decide) hd) (Nat.le_of_ble_eq_true rfl) ?_
        clear hv
        refine ru_if_ne 37 ddX10_as_27 (by decide) (fun hc => ?_) (fun hc => ?_)
        · rw [if_neg hc] at h
          refine ru_iload_n ddX10_as_37 rfl ?_
          refine ru_iload_n ddX10_as_38 rfl ?_
          obtain ⟨v11, hv, h⟩ := ruB_inv h
          refine ru_callSi (as := [.int x1, .int x2]) (st := []) ddX10_as_39 csX10_206 (wX6_place 1 (Nat.le_refl _) x1 x2 A hv) rfl (Nat.le_trans (m := 3) (by decide) hd) (Nat.le_of_ble_eq_true rfl) ?_
          clear hv
          refine ru_istore ddX10_as_42 (by decide) rfl rfl ?_
          refine ru_aload_n ddX10_as_44 rfl ?_
          refine ru_getR (r := 9) ddX10_as_45 flX10_32 rfl rfl ?_
          refine ru_getR (r := 10) ddX10_as_48 flX10_146 rfl rfl ?_
          refine ru_iload ddX10_as_51 rfl ?_
          obtain ⟨v12, hv, h⟩ := ruB_inv h
          refine ru_zald ddX10_as_53 rfl hv ?_
          clear hv
          refine ru_if_ne 64 ddX10_as_54 (by decide) (fun hc => ?_) (fun hc => ?_)
          · rw [if_neg hc] at h
            refine ru_under ddX10_as_64 unX10_231 ?_
            refine ru_iload ddX10_as_67 rfl ?_
            obtain ⟨v13, hv, h⟩ := ruB_inv h
            refine ru_uald ddX10_as_69 hv ?_
            clear hv
            refine ru_aload_n ddX10_as_70 rfl ?_
            refine ru_getR (r := 9) ddX10_as_71 flX10_32 rfl rfl ?_
            refine ru_iload ddX10_as_74 rfl ?_
            refine ru_iload_n ddX10_as_76 rfl ?_
            obtain ⟨v14, hv, h⟩ := ruB_inv h
            refine ru_callVi (as := [.int v11, .int x3]) (st := [.int v13]) ddX10_as_77 cvX10_209 rfl (wX6_kindAt 1 (Nat.le_refl _) v11 x3 A hv) rfl (Nat.le_trans (m := 3) (by decide) hd) (Nat.le_of_ble_eq_true rfl) ?_
            clear hv
            obtain ⟨v15, hv, h⟩ := ruB_inv h
            refine ru_callSi (as := [.int v13, .int v14]) (st := []) ddX10_as_80 csX10_234 (wX10_has 1 (Nat.le_refl _) v13 v14 A hv) rfl (Nat.le_trans (m := 3) (by decide) hd) (Nat.le_of_ble_eq_true rfl) ?_
            clear hv
            refine ru_if_ne 93 ddX10_as_83 (by decide) (fun hc => ?_) (fun hc => ?_)
            · rw [if_neg hc] at h
              refine ru_aload_n ddX10_as_93 rfl ?_
              refine ru_getR (r := 9) ddX10_as_94 flX10_32 rfl rfl ?_
              refine ru_iload ddX10_as_97 rfl ?_
              refine ru_iload_n ddX10_as_99 rfl ?_
              obtain ⟨v16, hv, h⟩ := ruB_inv h
              refine ru_callVi (as := [.int v11, .int x3]) (st := []) ddX10_as_100 cvX10_190 rfl (wX6_choiceAt 1 (Nat.le_refl _) v11 x3 A hv) rfl (Nat.le_trans (m := 3) (by decide) hd) (Nat.le_of_ble_eq_true rfl) ?_
              clear hv
              exact ru_iretW ddX10_as_103 rfl h
            · rw [if_pos hc] at h
              refine ru_aload_n ddX10_as_86 rfl ?_
              refine ru_ldc (v := (-1000003 : Int32)) ddX10_as_87 ckX10_237 ?_
              obtain ⟨v17, A18, hv, h⟩ := ruB2_inv h
              refine ru_callVi (as := [.int (-1000003 : Int32)]) (st := []) ddX10_as_89 cvX10_82 rfl (wX10_finding 2 (Nat.le_refl _) (-1000003 : Int32) A hv) rfl (Nat.le_trans (m := 3) (by decide) hd) (Nat.le_of_ble_eq_true rfl) ?_
              clear hv
              exact ru_iretW ddX10_as_92 rfl h
          · rw [if_pos hc] at h
            refine ru_aload_n ddX10_as_57 rfl ?_
            refine ru_ldc (v := (-1000004 : Int32)) ddX10_as_58 ckX10_202 ?_
            obtain ⟨v19, A20, hv, h⟩ := ruB2_inv h
            refine ru_callVi (as := [.int (-1000004 : Int32)]) (st := []) ddX10_as_60 cvX10_82 rfl (wX10_finding 2 (Nat.le_refl _) (-1000004 : Int32) A hv) rfl (Nat.le_trans (m := 3) (by decide) hd) (Nat.le_of_ble_eq_true rfl) ?_
            clear hv
            exact ru_iretW ddX10_as_63 rfl h
        · rw [if_pos hc] at h
          refine ru_aload_n ddX10_as_30 rfl ?_
          refine ru_ldc (v := (-1000001 : Int32)) ddX10_as_31 ckX10_81 ?_
          obtain ⟨v21, A22, hv, h⟩ := ruB2_inv h
          refine ru_callVi (as := [.int (-1000001 : Int32)]) (st := []) ddX10_as_33 cvX10_82 rfl (wX10_finding 2 (Nat.le_refl _) (-1000001 : Int32) A hv) rfl (Nat.le_trans (m := 3) (by decide) hd) (Nat.le_of_ble_eq_true rfl) ?_
          clear hv
          exact ru_iretW ddX10_as_36 rfl h
theorem wX3_hasSheets_l2 {E : ruE} {d : Nat} (hd : 2 ≤ d) {β : Type} {Q : Option Value → ruA → Prop} {res : β} (x1 : Int32) (x2 : Int32) (A : ruA) {k42 : Option (β)} {k50 : Option (β)} (hk42 : k42 = some res → ruW E mmX3_hasSheets d Q 42 [none, none, none, none] [] A) (hk50 : k50 = some res → ruW E mmX3_hasSheets d Q 50 [none, none, none, none] [] A) : ∀ (n : Nat) (x3 : Int32), fX3_hasSheets_l2 x1 x2 A k42 k50 n x3 = some res → ruW E mmX3_hasSheets d Q 2 [some (rurf E 63), some (.int x1), some (.int x2), some (.int x3)] [] A := by
  intro n
  induction n with
  | zero =>
    intro x3 h
    exact absurd h (by rw [fX3_hasSheets_l2]; exact fun h => nomatch h)
  | succ n ih =>
    intro x3 h
    rw [fX3_hasSheets_l2] at h
    refine ru_iload_n ddX3_hasSheets_2 rfl ?_
    refine ru_aload_n ddX3_hasSheets_3 rfl ?_
    refine ru_getR (r := 2) ddX3_hasSheets_4 flX3_15 rfl rfl ?_
    refine ru_getI ddX3_hasSheets_7 flX3_32 rfl ?_
    refine ru_icmp_ge 50 ddX3_hasSheets_10 (by decide) (fun hc => ?_) (fun hc => ?_)
    · rw [if_pos hc] at h
      refine ru_wk (L2 := [none, none, none, none]) trivial ?_
      exact hk50 h
    · rw [if_neg hc] at h
      refine ru_aload_n ddX3_hasSheets_13 rfl ?_
      refine ru_getR (r := 2) ddX3_hasSheets_14 flX3_15 rfl rfl ?_
      refine ru_getR (r := 5) ddX3_hasSheets_17 flX3_38 rfl rfl ?_
      refine ru_iload_n ddX3_hasSheets_20 rfl ?_
      obtain ⟨v1, hv, h⟩ := ruB_inv h
      refine ru_iald ddX3_hasSheets_21 rfl hv ?_
      clear hv
      refine ru_iload_n ddX3_hasSheets_22 rfl ?_
      refine ru_icmp_ne 44 ddX3_hasSheets_23 (by decide) (fun hc => ?_) (fun hc => ?_)
      · rw [if_neg hc] at h
        refine ru_iinc (x3 + (1 : Int32)) ddX3_hasSheets_44 (by decide) rfl rfl rfl rfl ?_
        refine ru_goto 2 ddX3_hasSheets_47 (by decide) ?_
        exact ih (x3 + (1 : Int32)) h
      · rw [if_pos hc] at h
        refine ru_aload_n ddX3_hasSheets_26 rfl ?_
        refine ru_getR (r := 9) ddX3_hasSheets_27 flX3_19 rfl rfl ?_
        refine ru_getR (r := 10) ddX3_hasSheets_30 flX3_41 rfl rfl ?_
        refine ru_iload_n ddX3_hasSheets_33 rfl ?_
        refine ru_iload_n ddX3_hasSheets_34 rfl ?_
        obtain ⟨v2, hv, h⟩ := ruB_inv h
        refine ru_callSi (as := [.int x3, .int x2]) (st := [rurf E 10]) ddX3_hasSheets_35 csX3_47 (wX6_place 1 (Nat.le_refl _) x3 x2 A hv) rfl (Nat.le_trans (m := 2) (by decide) hd) (Nat.le_of_ble_eq_true rfl) ?_
        clear hv
        obtain ⟨v3, hv, h⟩ := ruB_inv h
        refine ru_zald ddX3_hasSheets_38 rfl hv ?_
        clear hv
        refine ru_if_eq 44 ddX3_hasSheets_39 (by decide) (fun hc => ?_) (fun hc => ?_)
        · rw [if_pos hc] at h
          refine ru_iinc (x3 + (1 : Int32)) ddX3_hasSheets_44 (by decide) rfl rfl rfl rfl ?_
          refine ru_goto 2 ddX3_hasSheets_47 (by decide) ?_
          exact ih (x3 + (1 : Int32)) h
        · rw [if_neg hc] at h
          refine ru_wk (L2 := [none, none, none, none]) trivial ?_
          exact hk42 h
theorem wX3_hasSheets {E : ruE} (d : Nat) (hd : 2 ≤ d) (x1 : Int32) (x2 : Int32) (A : ruA) {r : Int32} (h : fX3_hasSheets x1 x2 A = some r) : ruC E mmX3_hasSheets d [rurf E 63, .int x1, .int x2] A (ruPr r A) := by
  refine ruC.of (L := [some (rurf E 63), some (.int x1), some (.int x2), none]) (by decide) rfl (Nat.le_of_ble_eq_true rfl) rfl ?_
  unfold fX3_hasSheets at h
  refine ru_iconst (0 : Int32) ddX3_hasSheets_0 rfl ?_
  refine ru_istore_n ddX3_hasSheets_1 (by decide) rfl rfl ?_
  exact wX3_hasSheets_l2 hd x1 x2 A (fun h => by
        refine ru_iconst (1 : Int32) ddX3_hasSheets_42 rfl ?_
        exact ru_zretP ddX3_hasSheets_43 rfl (Or.inr rfl) h) (fun h => by
        refine ru_iconst (0 : Int32) ddX3_hasSheets_50 rfl ?_
        exact ru_zretP ddX3_hasSheets_51 rfl (Or.inl rfl) h) ruF (0 : Int32) h
theorem wX3_fallOf {E : ruE} (d : Nat) (hd : 3 ≤ d) (x1 : Int32) (x2 : Int32) (A : ruA) {r : Int32} (h : fX3_fallOf x1 x2 A = some r) : ruC E mmX3_fallOf d [rurf E 63, .int x1, .int x2] A (ruPr r A) := by
  refine ruC.of (L := [some (rurf E 63), some (.int x1), some (.int x2)]) (by decide) rfl (Nat.le_of_ble_eq_true rfl) rfl ?_
  unfold fX3_fallOf at h
  refine ru_iload_n ddX3_fallOf_0 rfl ?_
  refine ru_iconst (5 : Int32) ddX3_fallOf_1 rfl ?_
  refine ru_icmp_ge 23 ddX3_fallOf_2 (by decide) (fun hc => ?_) (fun hc => ?_)
  · rw [if_pos hc] at h
    refine ru_iconst (0 : Int32) ddX3_fallOf_23 rfl ?_
    exact ru_iretP ddX3_fallOf_24 rfl h
  · rw [if_neg hc] at h
    refine ru_aload_n ddX3_fallOf_5 rfl ?_
    refine ru_getR (r := 9) ddX3_fallOf_6 flX3_19 rfl rfl ?_
    refine ru_getR (r := 10) ddX3_fallOf_9 flX3_41 rfl rfl ?_
    refine ru_iload_n ddX3_fallOf_12 rfl ?_
    refine ru_iload_n ddX3_fallOf_13 rfl ?_
    refine ru_iconst (1 : Int32) ddX3_fallOf_14 rfl ?_
    refine ru_iadd ddX3_fallOf_15 ?_
    obtain ⟨v1, hv, h⟩ := ruB_inv h
    refine ru_callSi (as := [.int x1, .int (x2 + (1 : Int32))]) (st := [rurf E 10]) ddX3_fallOf_16 csX3_47 (wX6_place 1 (Nat.le_refl _) x1 (x2 + (1 : Int32)) A hv) rfl (Nat.le_trans (m := 3) (by decide) hd) (Nat.le_of_ble_eq_true rfl) ?_
    clear hv
    obtain ⟨v2, hv, h⟩ := ruB_inv h
    refine ru_zald ddX3_fallOf_19 rfl hv ?_
    clear hv
    refine ru_if_ne 25 ddX3_fallOf_20 (by decide) (fun hc => ?_) (fun hc => ?_)
    · rw [if_neg hc] at h
      refine ru_aload_n ddX3_fallOf_25 rfl ?_
      refine ru_getR (r := 9) ddX3_fallOf_26 flX3_19 rfl rfl ?_
      refine ru_iload_n ddX3_fallOf_29 rfl ?_
      refine ru_iload_n ddX3_fallOf_30 rfl ?_
      obtain ⟨v3, hv, h⟩ := ruB_inv h
      refine ru_callSi (as := [.int x1, .int x2]) (st := [rurf E 9]) ddX3_fallOf_31 csX3_47 (wX6_place 1 (Nat.le_refl _) x1 x2 A hv) rfl (Nat.le_trans (m := 3) (by decide) hd) (Nat.le_of_ble_eq_true rfl) ?_
      clear hv
      refine ru_aload_n ddX3_fallOf_34 rfl ?_
      refine ru_getR (r := 2) ddX3_fallOf_35 flX3_15 rfl rfl ?_
      refine ru_getR (r := 3) ddX3_fallOf_38 flX3_65 rfl rfl ?_
      obtain ⟨v4, hv, h⟩ := ruB_inv h
      refine ru_callVi (as := [.int v3, rurf E 3]) (st := []) ddX3_fallOf_41 cvX3_81 rfl (wX6_rights 2 (Nat.le_refl _) v3 A hv) rfl (Nat.le_trans (m := 3) (by decide) hd) (Nat.le_of_ble_eq_true rfl) ?_
      clear hv
      refine ru_aload_n ddX3_fallOf_44 rfl ?_
      refine ru_getR (r := 9) ddX3_fallOf_45 flX3_19 rfl rfl ?_
      refine ru_iload_n ddX3_fallOf_48 rfl ?_
      refine ru_iload_n ddX3_fallOf_49 rfl ?_
      refine ru_iconst (1 : Int32) ddX3_fallOf_50 rfl ?_
      refine ru_iadd ddX3_fallOf_51 ?_
      obtain ⟨v5, hv, h⟩ := ruB_inv h
      refine ru_callSi (as := [.int x1, .int (x2 + (1 : Int32))]) (st := [rurf E 9, .int v4]) ddX3_fallOf_52 csX3_47 (wX6_place 1 (Nat.le_refl _) x1 (x2 + (1 : Int32)) A hv) rfl (Nat.le_trans (m := 3) (by decide) hd) (Nat.le_of_ble_eq_true rfl) ?_
      clear hv
      refine ru_aload_n ddX3_fallOf_55 rfl ?_
      refine ru_getR (r := 2) ddX3_fallOf_56 flX3_15 rfl rfl ?_
      refine ru_getR (r := 3) ddX3_fallOf_59 flX3_65 rfl rfl ?_
      obtain ⟨v6, hv, h⟩ := ruB_inv h
      refine ru_callVi (as := [.int v5, rurf E 3]) (st := [.int v4]) ddX3_fallOf_62 cvX3_81 rfl (wX6_rights 2 (Nat.le_refl _) v5 A hv) rfl (Nat.le_trans (m := 3) (by decide) hd) (Nat.le_of_ble_eq_true rfl) ?_
      clear hv
      refine ru_isub ddX3_fallOf_65 ?_
      exact ru_iretP ddX3_fallOf_66 rfl h
    · rw [if_pos hc] at h
      refine ru_iconst (0 : Int32) ddX3_fallOf_23 rfl ?_
      exact ru_iretP ddX3_fallOf_24 rfl h
theorem wX3_ofChild {E : ruE} (d : Nat) (hd : 4 ≤ d) (x1 : Int32) (x2 : Int32) (x3 : Int32) (A : ruA) {r : Int32} (h : fX3_ofChild x1 x2 x3 A = some r) : ruC E mmX3_ofChild d [rurf E 63, .int x1, .int x2, .int x3] A (ruPr r A) := by
  refine ruC.of (L := [some (rurf E 63), some (.int x1), some (.int x2), some (.int x3), none]) (by decide) rfl (Nat.le_of_ble_eq_true rfl) rfl ?_
  unfold fX3_ofChild at h
  refine ru_iload_n ddX3_ofChild_0 rfl ?_
  refine ru_iload_n ddX3_ofChild_1 rfl ?_
  obtain ⟨v1, hv, h⟩ := ruB_inv h
  refine ru_callSi (as := [.int x2, .int x3]) (st := []) ddX3_ofChild_2 csX3_47 (wX6_place 1 (Nat.le_refl _) x2 x3 A hv) rfl (Nat.le_trans (m := 4) (by decide) hd) (Nat.le_of_ble_eq_true rfl) ?_
  clear hv
  refine ru_istore ddX3_ofChild_5 (by decide) rfl rfl ?_
  refine ru_iload_n ddX3_ofChild_7 rfl ?_
  by_cases hc0 : x1 = (0 : Int32)
  · rw [if_pos hc0] at h
    refine ru_tabC 52 ddX3_ofChild_8 hc0 ⟨by decide, by decide, _, rfl, by decide⟩ ?_
    refine ru_aload_n ddX3_ofChild_52 rfl ?_
    refine ru_getR (r := 9) ddX3_ofChild_53 flX3_19 rfl rfl ?_
    refine ru_iload ddX3_ofChild_56 rfl ?_
    refine ru_iconst (0 : Int32) ddX3_ofChild_58 rfl ?_
    obtain ⟨v2, hv, h⟩ := ruB_inv h
    refine ru_callVi (as := [.int v1, .int (0 : Int32)]) (st := []) ddX3_ofChild_59 cvX3_62 rfl (wX6_rubbedAt 1 (Nat.le_refl _) v1 (0 : Int32) A hv) rfl (Nat.le_trans (m := 4) (by decide) hd) (Nat.le_of_ble_eq_true rfl) ?_
    clear hv
    exact ru_iretP ddX3_ofChild_62 rfl h
  · rw [if_neg hc0] at h
    by_cases hc1 : x1 = (1 : Int32)
    · rw [if_pos hc1] at h
      refine ru_tabC 63 ddX3_ofChild_8 hc1 ⟨by decide, by decide, _, rfl, by decide⟩ ?_
      refine ru_aload_n ddX3_ofChild_63 rfl ?_
      refine ru_getR (r := 9) ddX3_ofChild_64 flX3_19 rfl rfl ?_
      refine ru_iload ddX3_ofChild_67 rfl ?_
      refine ru_iconst (1 : Int32) ddX3_ofChild_69 rfl ?_
      obtain ⟨v3, hv, h⟩ := ruB_inv h
      refine ru_callVi (as := [.int v1, .int (1 : Int32)]) (st := []) ddX3_ofChild_70 cvX3_62 rfl (wX6_rubbedAt 1 (Nat.le_refl _) v1 (1 : Int32) A hv) rfl (Nat.le_trans (m := 4) (by decide) hd) (Nat.le_of_ble_eq_true rfl) ?_
      clear hv
      exact ru_iretP ddX3_ofChild_73 rfl h
    · rw [if_neg hc1] at h
      by_cases hc2 : x1 = (2 : Int32)
      · rw [if_pos hc2] at h
        refine ru_tabC 118 ddX3_ofChild_8 hc2 ⟨by decide, by decide, _, rfl, by decide⟩ ?_
        refine ru_iconst (0 : Int32) ddX3_ofChild_118 rfl ?_
        exact ru_iretP ddX3_ofChild_119 rfl h
      · rw [if_neg hc2] at h
        by_cases hc3 : x1 = (3 : Int32)
        · rw [if_pos hc3] at h
          refine ru_tabC 74 ddX3_ofChild_8 hc3 ⟨by decide, by decide, _, rfl, by decide⟩ ?_
          refine ru_aload_n ddX3_ofChild_74 rfl ?_
          refine ru_getR (r := 9) ddX3_ofChild_75 flX3_19 rfl rfl ?_
          refine ru_iload ddX3_ofChild_78 rfl ?_
          refine ru_aload_n ddX3_ofChild_80 rfl ?_
          refine ru_getR (r := 2) ddX3_ofChild_81 flX3_15 rfl rfl ?_
          refine ru_getR (r := 3) ddX3_ofChild_84 flX3_65 rfl rfl ?_
          refine ru_aload_n ddX3_ofChild_87 rfl ?_
          refine ru_getR (r := 2) ddX3_ofChild_88 flX3_15 rfl rfl ?_
          refine ru_getR (r := 4) ddX3_ofChild_91 flX3_68 rfl rfl ?_
          obtain ⟨v4, hv, h⟩ := ruB_inv h
          refine ru_callVi (as := [.int v1, rurf E 3, rurf E 4]) (st := []) ddX3_ofChild_94 cvX3_71 rfl (wX6_unfitPairs 3 (Nat.le_refl _) v1 A hv) rfl (Nat.le_trans (m := 4) (by decide) hd) (Nat.le_of_ble_eq_true rfl) ?_
          clear hv
          exact ru_iretP ddX3_ofChild_97 rfl h
        · rw [if_neg hc3] at h
          by_cases hc4 : x1 = (4 : Int32)
          · rw [if_pos hc4] at h
            refine ru_tabC 98 ddX3_ofChild_8 hc4 ⟨by decide, by decide, _, rfl, by decide⟩ ?_
            refine ru_aload_n ddX3_ofChild_98 rfl ?_
            refine ru_iload_n ddX3_ofChild_99 rfl ?_
            refine ru_iload_n ddX3_ofChild_100 rfl ?_
            obtain ⟨v5, hv, h⟩ := ruB_inv h
            refine ru_callVi (as := [.int x2, .int x3]) (st := []) ddX3_ofChild_101 cvX3_75 rfl (wX3_fallOf 3 (Nat.le_refl _) x2 x3 A hv) rfl (Nat.le_trans (m := 4) (by decide) hd) (Nat.le_of_ble_eq_true rfl) ?_
            clear hv
            exact ru_iretP ddX3_ofChild_104 rfl h
          · rw [if_neg hc4] at h
            by_cases hc5 : x1 = (5 : Int32)
            · rw [if_pos hc5] at h
              refine ru_tabC 105 ddX3_ofChild_8 hc5 ⟨by decide, by decide, _, rfl, by decide⟩ ?_
              refine ru_iconst (1 : Int32) ddX3_ofChild_105 rfl ?_
              exact ru_iretP ddX3_ofChild_106 rfl h
            · rw [if_neg hc5] at h
              by_cases hc6 : x1 = (6 : Int32)
              · rw [if_pos hc6] at h
                refine ru_tabC 107 ddX3_ofChild_8 hc6 ⟨by decide, by decide, _, rfl, by decide⟩ ?_
                refine ru_aload_n ddX3_ofChild_107 rfl ?_
                refine ru_getR (r := 9) ddX3_ofChild_108 flX3_19 rfl rfl ?_
                refine ru_iload ddX3_ofChild_111 rfl ?_
                refine ru_iconst (5 : Int32) ddX3_ofChild_113 rfl ?_
                obtain ⟨v6, hv, h⟩ := ruB_inv h
                refine ru_callVi (as := [.int v1, .int (5 : Int32)]) (st := []) ddX3_ofChild_114 cvX3_78 rfl (wX6_standingBy 2 (Nat.le_refl _) v1 (5 : Int32) A hv) rfl (Nat.le_trans (m := 4) (by decide) hd) (Nat.le_of_ble_eq_true rfl) ?_
                clear hv
                exact ru_iretP ddX3_ofChild_117 rfl h
              · rw [if_neg hc6] at h
                refine ru_tabD 118 ddX3_ofChild_8 (fun j h9 => ?_) (by decide) ?_
                · have h8 : j = 0 ∨ j = 1 ∨ j = 2 ∨ j = 3 ∨ j = 4 ∨ j = 5 ∨ j = 6 := by omega
                  rcases h8 with rfl | rfl | rfl | rfl | rfl | rfl | rfl
                  · exact fun e => hc0 (e.trans (by decide))
                  · exact fun e => hc1 (e.trans (by decide))
                  · exact fun e => hc2 (e.trans (by decide))
                  · exact fun e => hc3 (e.trans (by decide))
                  · exact fun e => hc4 (e.trans (by decide))
                  · exact fun e => hc5 (e.trans (by decide))
                  · exact fun e => hc6 (e.trans (by decide))
                refine ru_iconst (0 : Int32) ddX3_ofChild_118 rfl ?_
                exact ru_iretP ddX3_ofChild_119 rfl h
theorem wX8_pack_l8 {E : ruE} {d : Nat} (hd : 2 ≤ d) {β : Type} {Q : Option Value → ruA → Prop} {res : β} (x1 : Int32) (A : ruA) {k65 : Int64 → Int32 → Option (β)} (hk65 : ∀ (x2 : Int64) (x4 : Int32), k65 x2 x4 = some res → ruW E mmX8_pack d Q 65 [some (rurf E 65), none, some (.long x2), none, some (.int x4), none, none] [] A) : ∀ (n : Nat) (x2 : Int64) (x4 : Int32) (x5 : Int32), fX8_pack_l8 x1 A k65 n x2 x4 x5 = some res → ruW E mmX8_pack d Q 8 [some (rurf E 65), some (.int x1), some (.long x2), none, some (.int x4), some (.int x5), none] [] A := by
  intro n
  induction n with
  | zero =>
    intro x2 x4 x5 h
    exact absurd h (by rw [fX8_pack_l8]; exact fun h => nomatch h)
  | succ n ih =>
    intro x2 x4 x5 h
    rw [fX8_pack_l8] at h
    refine ru_iload ddX8_pack_8 rfl ?_
    refine ru_bipush (12 : Int32) ddX8_pack_10 rfl ?_
    refine ru_icmp_ge 65 ddX8_pack_12 (by decide) (fun hc => ?_) (fun hc => ?_)
    · rw [if_pos hc] at h
      refine ru_wk (L2 := [some (rurf E 65), none, some (.long x2), none, some (.int x4), none, none]) ⟨rfl, rfl, rfl, trivial⟩ ?_
      exact hk65 x2 x4 h
    · rw [if_neg hc] at h
      refine ru_aload_n ddX8_pack_15 rfl ?_
      refine ru_getR (r := 9) ddX8_pack_16 flX8_26 rfl rfl ?_
      refine ru_iload_n ddX8_pack_19 rfl ?_
      refine ru_iload ddX8_pack_20 rfl ?_
      obtain ⟨v1, hv, h⟩ := ruB_inv h
      refine ru_callVi (as := [.int x1, .int x5]) (st := []) ddX8_pack_22 cvX8_76 rfl (wX6_choiceAt 1 (Nat.le_refl _) x1 x5 A hv) rfl (Nat.le_trans (m := 2) (by decide) hd) (Nat.le_of_ble_eq_true rfl) ?_
      clear hv
      refine ru_istore ddX8_pack_25 (by decide) rfl rfl ?_
      refine ru_lload_n ddX8_pack_27 rfl ?_
      refine ru_iload ddX8_pack_28 rfl ?_
      refine ru_iconst (1 : Int32) ddX8_pack_30 rfl ?_
      refine ru_iadd ddX8_pack_31 ?_
      refine ru_i2l ddX8_pack_32 ?_
      refine ru_iload ddX8_pack_33 rfl ?_
      refine ru_iconst (3 : Int32) ddX8_pack_35 rfl ?_
      refine ru_imul ddX8_pack_36 ?_
      refine ru_lshl ddX8_pack_37 ?_
      refine ru_lor ddX8_pack_38 ?_
      refine ru_lstore_n ddX8_pack_39 (by decide) rfl rfl ?_
      refine ru_iload ddX8_pack_40 rfl ?_
      refine ru_iload ddX8_pack_42 rfl ?_
      refine ru_iconst (-1 : Int32) ddX8_pack_44 rfl ?_
      obtain ⟨v2, hq, h⟩ := ruB_inv h
      have J : ruW E mmX8_pack d Q 56 [some (rurf E 65), some (.int x1), some (.long (x2 ||| (((v1 + (1 : Int32))).toInt64 <<< (((x5 * (3 : Int32))).toInt64 &&& 63)))), none, none, some (.int x5), none] [.int v2, .int x4] A := by
          refine ru_ior ddX8_pack_56 ?_
          refine ru_istore ddX8_pack_57 (by decide) rfl rfl ?_
          refine ru_iinc (x5 + (1 : Int32)) ddX8_pack_59 (by decide) rfl rfl rfl rfl ?_
          refine ru_goto 8 ddX8_pack_62 (by decide) ?_
          exact ih (x2 ||| (((v1 + (1 : Int32))).toInt64 <<< (((x5 * (3 : Int32))).toInt64 &&& 63))) (x4 ||| v2) (x5 + (1 : Int32)) h
      replace h := hq
      clear hq
      refine ru_icmp_ne 52 ddX8_pack_45 (by decide) (fun hc => ?_) (fun hc => ?_)
      · rw [if_neg hc] at h
        refine ru_iconst (1 : Int32) ddX8_pack_52 rfl ?_
        refine ru_iload ddX8_pack_53 rfl ?_
        refine ru_ishl ddX8_pack_55 ?_
        refine ru_wk (L2 := [some (rurf E 65), some (.int x1), some (.long (x2 ||| (((v1 + (1 : Int32))).toInt64 <<< (((x5 * (3 : Int32))).toInt64 &&& 63)))), none, none, some (.int x5), none]) ⟨rfl, rfl, rfl, rfl, trivial⟩ ?_
        obtain rfl := ruS1 h
        exact J
      · rw [if_pos hc] at h
        refine ru_iconst (0 : Int32) ddX8_pack_48 rfl ?_
        refine ru_goto 56 ddX8_pack_49 (by decide) ?_
        refine ru_wk (L2 := [some (rurf E 65), some (.int x1), some (.long (x2 ||| (((v1 + (1 : Int32))).toInt64 <<< (((x5 * (3 : Int32))).toInt64 &&& 63)))), none, none, some (.int x5), none]) ⟨rfl, rfl, rfl, rfl, trivial⟩ ?_
        obtain rfl := ruS1 h
        exact J
theorem wX8_pack {E : ruE} (d : Nat) (hd : 2 ≤ d) (x1 : Int32) (A : ruA) {B : ruA} (h : fX8_pack x1 A = some B) : ruC E mmX8_pack d [rurf E 65, .int x1] A (ruPv B) := by
  refine ruC.of (L := [some (rurf E 65), some (.int x1), none, none, none, none, none]) (by decide) rfl (Nat.le_of_ble_eq_true rfl) rfl ?_
  unfold fX8_pack at h
  refine ru_lconst (0 : Int64) ddX8_pack_0 rfl ?_
  refine ru_lstore_n ddX8_pack_1 (by decide) rfl rfl ?_
  refine ru_iconst (0 : Int32) ddX8_pack_2 rfl ?_
  refine ru_istore ddX8_pack_3 (by decide) rfl rfl ?_
  refine ru_iconst (0 : Int32) ddX8_pack_5 rfl ?_
  refine ru_istore ddX8_pack_6 (by decide) rfl rfl ?_
  exact wX8_pack_l8 hd x1 A (fun v3 v4 h => by
        refine ru_aload_n ddX8_pack_65 rfl ?_
        refine ru_getR (r := 67) ddX8_pack_66 flX8_15 rfl rfl ?_
        refine ru_aload_n ddX8_pack_69 rfl ?_
        refine ru_getI ddX8_pack_70 flX8_51 rfl ?_
        refine ru_lload_n ddX8_pack_73 rfl ?_
        obtain ⟨A5, hv, h⟩ := ruB_inv h
        refine ru_last ddX8_pack_74 rfl hv ?_
        clear hv
        refine ru_aload_n ddX8_pack_75 rfl ?_
        refine ru_getR (r := 68) ddX8_pack_76 flX8_19 rfl rfl ?_
        refine ru_aload_n ddX8_pack_79 rfl ?_
        refine ru_getI ddX8_pack_80 flX8_51 rfl ?_
        refine ru_iload ddX8_pack_83 rfl ?_
        obtain ⟨A6, hv, h⟩ := ruB_inv h
        refine ru_iast ddX8_pack_85 rfl hv ?_
        clear hv
        exact ru_vretW ddX8_pack_86 rfl h) ruF (0 : Int64) (0 : Int32) (0 : Int32) h
theorem wX8_gather_l7 {E : ruE} {d : Nat} (hd : 3 ≤ d) {β : Type} {Q : Option Value → ruA → Prop} {res : β} (x1 : Int32) (x2 : Int32) {k83 : ruA → Option (β)} (hk83 : ∀ (A : ruA), k83 A = some res → ruW E mmX8_gather d Q 83 [none, none, none, none, none] [] A) : ∀ (n : Nat) (x3 : Int32) (A : ruA), fX8_gather_l7 x1 x2 k83 n x3 A = some res → ruW E mmX8_gather d Q 7 [some (rurf E 65), some (.int x1), some (.int x2), some (.int x3), none] [] A := by
  intro n
  induction n with
  | zero =>
    intro x3 A h
    exact absurd h (by rw [fX8_gather_l7]; exact fun h => nomatch h)
  | succ n ih =>
    intro x3 A h
    rw [fX8_gather_l7] at h
    refine ru_iload_n ddX8_gather_7 rfl ?_
    refine ru_aload_n ddX8_gather_8 rfl ?_
    refine ru_getR (r := 2) ddX8_gather_9 flX8_22 rfl rfl ?_
    refine ru_getI ddX8_gather_12 flX8_54 rfl ?_
    refine ru_icmp_ge 83 ddX8_gather_15 (by decide) (fun hc => ?_) (fun hc => ?_)
    · rw [if_pos hc] at h
      refine ru_wk (L2 := [none, none, none, none, none]) trivial ?_
      exact hk83 A h
    · rw [if_neg hc] at h
      refine ru_iload_n ddX8_gather_18 rfl ?_
      refine ru_iload_n ddX8_gather_19 rfl ?_
      obtain ⟨v2, hv, h⟩ := ruB_inv h
      refine ru_callSi (as := [.int x3, .int x2]) (st := []) ddX8_gather_20 csX8_59 (wX6_place 1 (Nat.le_refl _) x3 x2 A hv) rfl (Nat.le_trans (m := 3) (by decide) hd) (Nat.le_of_ble_eq_true rfl) ?_
      clear hv
      refine ru_istore ddX8_gather_23 (by decide) rfl rfl ?_
      refine ru_aload_n ddX8_gather_25 rfl ?_
      refine ru_getR (r := 2) ddX8_gather_26 flX8_22 rfl rfl ?_
      refine ru_getR (r := 5) ddX8_gather_29 flX8_65 rfl rfl ?_
      refine ru_iload_n ddX8_gather_32 rfl ?_
      obtain ⟨v3, hv, h⟩ := ruB_inv h
      refine ru_iald ddX8_gather_33 rfl hv ?_
      clear hv
      refine ru_iload_n ddX8_gather_34 rfl ?_
      obtain ⟨A4, hq, h⟩ := ruB_inv h
      have J : ruW E mmX8_gather d Q 77 [some (rurf E 65), some (.int x1), some (.int x2), some (.int x3), none] [] A4 := by
          refine ru_iinc (x3 + (1 : Int32)) ddX8_gather_77 (by decide) rfl rfl rfl rfl ?_
          refine ru_goto 7 ddX8_gather_80 (by decide) ?_
          exact ih (x3 + (1 : Int32)) A4 h
      replace h := hq
      clear hq
      refine ru_icmp_ne 77 ddX8_gather_35 (by decide) (fun hc => ?_) (fun hc => ?_)
      · rw [if_neg hc] at h
        refine ru_wk (L2 := [some (rurf E 65), some (.int x1), some (.int x2), some (.int x3), none]) ⟨rfl, rfl, rfl, rfl, trivial⟩ ?_
        obtain rfl := ruS1 h
        exact J
      · rw [if_pos hc] at h
        refine ru_aload_n ddX8_gather_38 rfl ?_
        refine ru_getR (r := 9) ddX8_gather_39 flX8_26 rfl rfl ?_
        refine ru_getR (r := 10) ddX8_gather_42 flX8_68 rfl rfl ?_
        refine ru_iload ddX8_gather_45 rfl ?_
        obtain ⟨v5, hv, h⟩ := ruB_inv h
        refine ru_zald ddX8_gather_47 rfl hv ?_
        clear hv
        refine ru_if_eq 77 ddX8_gather_48 (by decide) (fun hc => ?_) (fun hc => ?_)
        · rw [if_pos hc] at h
          refine ru_wk (L2 := [some (rurf E 65), some (.int x1), some (.int x2), some (.int x3), none]) ⟨rfl, rfl, rfl, rfl, trivial⟩ ?_
          obtain rfl := ruS1 h
          exact J
        · rw [if_neg hc] at h
          refine ru_aload_n ddX8_gather_51 rfl ?_
          refine ru_getR (r := 66) ddX8_gather_52 flX8_9 rfl rfl ?_
          refine ru_aload_n ddX8_gather_55 rfl ?_
          refine ru_getI ddX8_gather_56 flX8_51 rfl ?_
          refine ru_iload_n ddX8_gather_59 rfl ?_
          obtain ⟨A6, hv, h⟩ := ruB_inv h
          refine ru_iast ddX8_gather_60 rfl hv ?_
          clear hv
          refine ru_aload_n ddX8_gather_61 rfl ?_
          refine ru_iload ddX8_gather_62 rfl ?_
          obtain ⟨A7, hv, h⟩ := ruB_inv h
          refine ru_callVv (as := [.int v2]) (st := []) ddX8_gather_64 cvX8_72 rfl (wX8_pack 2 (Nat.le_refl _) v2 A6 hv) rfl (Nat.le_trans (m := 3) (by decide) hd) (Nat.le_of_ble_eq_true rfl) ?_
          clear hv
          refine ru_aload_n ddX8_gather_67 rfl ?_
          refine ru_dup ddX8_gather_68 rfl ?_
          refine ru_getI ddX8_gather_69 flX8_51 rfl ?_
          refine ru_iconst (1 : Int32) ddX8_gather_72 rfl ?_
          refine ru_iadd ddX8_gather_73 ?_
          obtain ⟨A8, hv, h⟩ := ruB_inv h
          refine ru_putI2 ddX8_gather_74 flX8_51 fp8_4 rfl hv ?_
          clear hv
          refine ru_wk (L2 := [some (rurf E 65), some (.int x1), some (.int x2), some (.int x3), none]) ⟨rfl, rfl, rfl, rfl, trivial⟩ ?_
          obtain rfl := ruS1 h
          exact J
theorem wX8_gather {E : ruE} (d : Nat) (hd : 3 ≤ d) (x1 : Int32) (x2 : Int32) (A : ruA) {B : ruA} (h : fX8_gather x1 x2 A = some B) : ruC E mmX8_gather d [rurf E 65, .int x1, .int x2] A (ruPv B) := by
  refine ruC.of (L := [some (rurf E 65), some (.int x1), some (.int x2), none, none]) (by decide) rfl (Nat.le_of_ble_eq_true rfl) rfl ?_
  unfold fX8_gather at h
  refine ru_aload_n ddX8_gather_0 rfl ?_
  refine ru_iconst (0 : Int32) ddX8_gather_1 rfl ?_
  obtain ⟨A1, hv, h⟩ := ruB_inv h
  refine ru_putI2 ddX8_gather_2 flX8_51 fp8_4 rfl hv ?_
  clear hv
  refine ru_iconst (0 : Int32) ddX8_gather_5 rfl ?_
  refine ru_istore_n ddX8_gather_6 (by decide) rfl rfl ?_
  exact wX8_gather_l7 hd x1 x2 (fun A9 h => by
        exact ru_vretW ddX8_gather_83 rfl h) ruF (0 : Int32) A1 h
theorem wX8_alikeTo_l19 {E : ruE} {d : Nat} (hd : 1 ≤ d) {β : Type} {Q : Option Value → ruA → Prop} {res : β} (x1 : Int32) (x4 : Int64) (A : ruA) {k70 : Int32 → Option (β)} (hk70 : ∀ (x6 : Int32), k70 x6 = some res → ruW E mmX8_alikeTo d Q 70 [none, none, none, none, none, none, some (.int x6), none] [] A) : ∀ (n : Nat) (x6 : Int32) (x7 : Int32), fX8_alikeTo_l19 x1 x4 A k70 n x6 x7 = some res → ruW E mmX8_alikeTo d Q 19 [some (rurf E 65), some (.int x1), none, none, some (.long x4), none, some (.int x6), some (.int x7)] [] A := by
  intro n
  induction n with
  | zero =>
    intro x6 x7 h
    exact absurd h (by rw [fX8_alikeTo_l19]; exact fun h => nomatch h)
  | succ n ih =>
    intro x6 x7 h
    rw [fX8_alikeTo_l19] at h
    refine ru_iload ddX8_alikeTo_19 rfl ?_
    refine ru_aload_n ddX8_alikeTo_21 rfl ?_
    refine ru_getI ddX8_alikeTo_22 flX8_51 rfl ?_
    refine ru_icmp_ge 70 ddX8_alikeTo_25 (by decide) (fun hc => ?_) (fun hc => ?_)
    · rw [if_pos hc] at h
      refine ru_wk (L2 := [none, none, none, none, none, none, some (.int x6), none]) ⟨rfl, trivial⟩ ?_
      exact hk70 x6 h
    · rw [if_neg hc] at h
      refine ru_aload_n ddX8_alikeTo_28 rfl ?_
      refine ru_getR (r := 67) ddX8_alikeTo_29 flX8_15 rfl rfl ?_
      refine ru_iload_n ddX8_alikeTo_32 rfl ?_
      obtain ⟨v1, hv, h⟩ := ruB_inv h
      refine ru_lald ddX8_alikeTo_33 rfl hv ?_
      clear hv
      refine ru_aload_n ddX8_alikeTo_34 rfl ?_
      refine ru_getR (r := 67) ddX8_alikeTo_35 flX8_15 rfl rfl ?_
      refine ru_iload ddX8_alikeTo_38 rfl ?_
      obtain ⟨v2, hv, h⟩ := ruB_inv h
      refine ru_lald ddX8_alikeTo_40 rfl hv ?_
      clear hv
      refine ru_lxor ddX8_alikeTo_41 ?_
      refine ru_lload ddX8_alikeTo_42 rfl ?_
      refine ru_land ddX8_alikeTo_44 ?_
      refine ru_lconst (0 : Int64) ddX8_alikeTo_45 rfl ?_
      refine ru_lcmp ddX8_alikeTo_46 ?_
      obtain ⟨v3, hq, h⟩ := ruB_inv h
      have J : ruW E mmX8_alikeTo d Q 64 [some (rurf E 65), some (.int x1), none, none, some (.long x4), none, some (.int v3), some (.int x7)] [] A := by
          refine ru_iinc (x7 + (1 : Int32)) ddX8_alikeTo_64 (by decide) rfl rfl rfl rfl ?_
          refine ru_goto 19 ddX8_alikeTo_67 (by decide) ?_
          exact ih v3 (x7 + (1 : Int32)) h
      replace h := hq
      clear hq
      refine ru_if_ne 64 ddX8_alikeTo_47 (by decide) (fun hc => ?_) (fun hc => ?_)
      · rw [if_neg hc] at h
        refine ru_wk (L2 := [some (rurf E 65), some (.int x1), none, none, some (.long x4), none, some (.int x6), some (.int x7)]) ⟨rfl, rfl, rfl, rfl, rfl, trivial⟩ ?_
        obtain rfl := ruS1 h
        exact J
      · rw [if_pos hc] at h
        refine ru_iload ddX8_alikeTo_50 rfl ?_
        refine ru_iconst (1 : Int32) ddX8_alikeTo_52 rfl ?_
        refine ru_aload_n ddX8_alikeTo_53 rfl ?_
        refine ru_getR (r := 66) ddX8_alikeTo_54 flX8_9 rfl rfl ?_
        refine ru_iload ddX8_alikeTo_57 rfl ?_
        obtain ⟨v4, hv, h⟩ := ruB_inv h
        refine ru_iald ddX8_alikeTo_59 rfl hv ?_
        clear hv
        refine ru_ishl ddX8_alikeTo_60 ?_
        refine ru_ior ddX8_alikeTo_61 ?_
        refine ru_istore ddX8_alikeTo_62 (by decide) rfl rfl ?_
        refine ru_wk (L2 := [some (rurf E 65), some (.int x1), none, none, some (.long x4), none, some (.int (x6 ||| ((1 : Int32) <<< (v4 &&& 31)))), some (.int x7)]) ⟨rfl, rfl, rfl, rfl, rfl, trivial⟩ ?_
        obtain rfl := ruS1 h
        exact J
theorem wX8_alikeTo {E : ruE} (d : Nat) (hd : 1 ≤ d) (x1 : Int32) (x2 : Int32) (x3 : Int32) (A : ruA) {r : Int32} (h : fX8_alikeTo x1 x2 x3 A = some r) : ruC E mmX8_alikeTo d [rurf E 65, .int x1, .int x2, .int x3] A (ruPr r A) := by
  refine ruC.of (L := [some (rurf E 65), some (.int x1), some (.int x2), some (.int x3), none, none, none, none]) (by decide) rfl (Nat.le_of_ble_eq_true rfl) rfl ?_
  unfold fX8_alikeTo at h
  refine ru_lconst (1 : Int64) ddX8_alikeTo_0 rfl ?_
  refine ru_iload_n ddX8_alikeTo_1 rfl ?_
  refine ru_iconst (3 : Int32) ddX8_alikeTo_2 rfl ?_
  refine ru_imul ddX8_alikeTo_3 ?_
  refine ru_lshl ddX8_alikeTo_4 ?_
  refine ru_lconst (1 : Int64) ddX8_alikeTo_5 rfl ?_
  refine ru_lsub ddX8_alikeTo_6 ?_
  refine ru_iload_n ddX8_alikeTo_7 rfl ?_
  refine ru_iconst (3 : Int32) ddX8_alikeTo_8 rfl ?_
  refine ru_imul ddX8_alikeTo_9 ?_
  refine ru_lshl ddX8_alikeTo_10 ?_
  refine ru_lstore ddX8_alikeTo_11 (by decide) rfl rfl ?_
  refine ru_iconst (0 : Int32) ddX8_alikeTo_13 rfl ?_
  refine ru_istore ddX8_alikeTo_14 (by decide) rfl rfl ?_
  refine ru_iload_n ddX8_alikeTo_16 rfl ?_
  refine ru_istore ddX8_alikeTo_17 (by decide) rfl rfl ?_
  refine ru_wk (L2 := [some (rurf E 65), some (.int x1), none, none, some (.long ((((1 : Int64) <<< (((x3 * (3 : Int32))).toInt64 &&& 63)) - (1 : Int64)) <<< (((x2 * (3 : Int32))).toInt64 &&& 63))), none, some (.int (0 : Int32)), some (.int x1)]) ⟨rfl, rfl, rfl, rfl, rfl, trivial⟩ ?_
  exact wX8_alikeTo_l19 hd x1 ((((1 : Int64) <<< (((x3 * (3 : Int32))).toInt64 &&& 63)) - (1 : Int64)) <<< (((x2 * (3 : Int32))).toInt64 &&& 63)) A (fun v5 h => by
        refine ru_iload ddX8_alikeTo_70 rfl ?_
        exact ru_iretP ddX8_alikeTo_72 rfl h) ruF (0 : Int32) x1 h
theorem wJ6_bitCount_0f7a4 {E : ruE} (d : Nat) (hd : 1 ≤ d) (x0 : Int32) (A : ruA) {r : Int32} (h : fJ6_bitCount_0f7a4 x0 = some r) : ruC E mmJ6_bitCount_0f7a4 d [.int x0] A (ruPr r A) := by
  refine ruC.of (L := [some (.int x0)]) (by decide) rfl (Nat.le_of_ble_eq_true rfl) rfl ?_
  unfold fJ6_bitCount_0f7a4 at h
  refine ru_iload_n ddJ6_bitCount_0f7a4_0 rfl ?_
  refine ru_iload_n ddJ6_bitCount_0f7a4_1 rfl ?_
  refine ru_iconst (1 : Int32) ddJ6_bitCount_0f7a4_2 rfl ?_
  refine ru_iushr2 ddJ6_bitCount_0f7a4_3 ?_
  refine ru_ldcw (v := (1431655765 : Int32)) ddJ6_bitCount_0f7a4_4 ckJ6_265 ?_
  refine ru_iand ddJ6_bitCount_0f7a4_7 ?_
  refine ru_isub ddJ6_bitCount_0f7a4_8 ?_
  refine ru_istore_n ddJ6_bitCount_0f7a4_9 (by decide) rfl rfl ?_
  refine ru_iload_n ddJ6_bitCount_0f7a4_10 rfl ?_
  refine ru_ldcw (v := (858993459 : Int32)) ddJ6_bitCount_0f7a4_11 ckJ6_266 ?_
  refine ru_iand ddJ6_bitCount_0f7a4_14 ?_
  refine ru_iload_n ddJ6_bitCount_0f7a4_15 rfl ?_
  refine ru_iconst (2 : Int32) ddJ6_bitCount_0f7a4_16 rfl ?_
  refine ru_iushr2 ddJ6_bitCount_0f7a4_17 ?_
  refine ru_ldcw (v := (858993459 : Int32)) ddJ6_bitCount_0f7a4_18 ckJ6_266 ?_
  refine ru_iand ddJ6_bitCount_0f7a4_21 ?_
  refine ru_iadd ddJ6_bitCount_0f7a4_22 ?_
  refine ru_istore_n ddJ6_bitCount_0f7a4_23 (by decide) rfl rfl ?_
  refine ru_iload_n ddJ6_bitCount_0f7a4_24 rfl ?_
  refine ru_iload_n ddJ6_bitCount_0f7a4_25 rfl ?_
  refine ru_iconst (4 : Int32) ddJ6_bitCount_0f7a4_26 rfl ?_
  refine ru_iushr2 ddJ6_bitCount_0f7a4_27 ?_
  refine ru_iadd ddJ6_bitCount_0f7a4_28 ?_
  refine ru_ldcw (v := (252645135 : Int32)) ddJ6_bitCount_0f7a4_29 ckJ6_267 ?_
  refine ru_iand ddJ6_bitCount_0f7a4_32 ?_
  refine ru_istore_n ddJ6_bitCount_0f7a4_33 (by decide) rfl rfl ?_
  refine ru_iload_n ddJ6_bitCount_0f7a4_34 rfl ?_
  refine ru_iload_n ddJ6_bitCount_0f7a4_35 rfl ?_
  refine ru_bipush (8 : Int32) ddJ6_bitCount_0f7a4_36 rfl ?_
  refine ru_iushr2 ddJ6_bitCount_0f7a4_38 ?_
  refine ru_iadd ddJ6_bitCount_0f7a4_39 ?_
  refine ru_istore_n ddJ6_bitCount_0f7a4_40 (by decide) rfl rfl ?_
  refine ru_iload_n ddJ6_bitCount_0f7a4_41 rfl ?_
  refine ru_iload_n ddJ6_bitCount_0f7a4_42 rfl ?_
  refine ru_bipush (16 : Int32) ddJ6_bitCount_0f7a4_43 rfl ?_
  refine ru_iushr2 ddJ6_bitCount_0f7a4_45 ?_
  refine ru_iadd ddJ6_bitCount_0f7a4_46 ?_
  refine ru_istore_n ddJ6_bitCount_0f7a4_47 (by decide) rfl rfl ?_
  refine ru_iload_n ddJ6_bitCount_0f7a4_48 rfl ?_
  refine ru_bipush (63 : Int32) ddJ6_bitCount_0f7a4_49 rfl ?_
  refine ru_iand ddJ6_bitCount_0f7a4_51 ?_
  exact ru_iretP ddJ6_bitCount_0f7a4_52 rfl h
theorem wX8_takeIfBetter {E : ruE} (d : Nat) (hd : 2 ≤ d) (x1 : Int32) (x2 : Int32) (x3 : Int32) (A : ruA) {B : ruA} (h : fX8_takeIfBetter x1 x2 x3 A = some B) : ruC E mmX8_takeIfBetter d [rurf E 65, .int x1, .int x2, .int x3] A (ruPv B) := by
  refine ruC.of (L := [some (rurf E 65), some (.int x1), some (.int x2), some (.int x3), none, none]) (by decide) rfl (Nat.le_of_ble_eq_true rfl) rfl ?_
  unfold fX8_takeIfBetter at h
  refine ru_iload_n ddX8_takeIfBetter_0 rfl ?_
  obtain ⟨v1, hv, h⟩ := ruB_inv h
  refine ru_callSi (as := [.int x1]) (st := []) ddX8_takeIfBetter_1 csX8_90 (wJ6_bitCount_0f7a4 1 (Nat.le_refl _) x1 A hv) rfl (Nat.le_trans (m := 2) (by decide) hd) (Nat.le_of_ble_eq_true rfl) ?_
  clear hv
  refine ru_istore ddX8_takeIfBetter_4 (by decide) rfl rfl ?_
  refine ru_iload ddX8_takeIfBetter_6 rfl ?_
  refine ru_iload_n ddX8_takeIfBetter_8 rfl ?_
  obtain ⟨v2, hq, h⟩ := ruB_inv h
  have J : ruW E mmX8_takeIfBetter d (ruPv B) 42 [some (rurf E 65), some (.int x1), some (.int x2), none, some (.int v1), none] [.int v2] A := by
      refine ru_istore ddX8_takeIfBetter_42 (by decide) rfl rfl ?_
      refine ru_iload ddX8_takeIfBetter_44 rfl ?_
      refine ru_aload_n ddX8_takeIfBetter_46 rfl ?_
      refine ru_getI ddX8_takeIfBetter_47 flX8_44 rfl ?_
      refine ru_icmp_gt 58 ddX8_takeIfBetter_50 (by decide) (fun hc => ?_) (fun hc => ?_)
      · rw [if_pos hc] at h
        refine ru_aload_n ddX8_takeIfBetter_58 rfl ?_
        refine ru_iload ddX8_takeIfBetter_59 rfl ?_
        obtain ⟨A3, hv, h⟩ := ruB_inv h
        refine ru_putI2 ddX8_takeIfBetter_61 flX8_44 fp8_3 rfl hv ?_
        clear hv
        refine ru_aload_n ddX8_takeIfBetter_64 rfl ?_
        refine ru_iload_n ddX8_takeIfBetter_65 rfl ?_
        obtain ⟨A4, hv, h⟩ := ruB_inv h
        refine ru_putI2 ddX8_takeIfBetter_66 flX8_38 fp8_1 rfl hv ?_
        clear hv
        refine ru_aload_n ddX8_takeIfBetter_69 rfl ?_
        refine ru_iload_n ddX8_takeIfBetter_70 rfl ?_
        obtain ⟨A5, hv, h⟩ := ruB_inv h
        refine ru_putI2 ddX8_takeIfBetter_71 flX8_41 fp8_2 rfl hv ?_
        clear hv
        exact ru_vretW ddX8_takeIfBetter_74 rfl h
      · rw [if_neg hc] at h
        refine ru_iload ddX8_takeIfBetter_53 rfl ?_
        refine ru_if_eq 74 ddX8_takeIfBetter_55 (by decide) (fun hc => ?_) (fun hc => ?_)
        · rw [if_pos hc] at h
          exact ru_vretW ddX8_takeIfBetter_74 rfl h
        · rw [if_neg hc] at h
          refine ru_aload_n ddX8_takeIfBetter_58 rfl ?_
          refine ru_iload ddX8_takeIfBetter_59 rfl ?_
          obtain ⟨A6, hv, h⟩ := ruB_inv h
          refine ru_putI2 ddX8_takeIfBetter_61 flX8_44 fp8_3 rfl hv ?_
          clear hv
          refine ru_aload_n ddX8_takeIfBetter_64 rfl ?_
          refine ru_iload_n ddX8_takeIfBetter_65 rfl ?_
          obtain ⟨A7, hv, h⟩ := ruB_inv h
          refine ru_putI2 ddX8_takeIfBetter_66 flX8_38 fp8_1 rfl hv ?_
          clear hv
          refine ru_aload_n ddX8_takeIfBetter_69 rfl ?_
          refine ru_iload_n ddX8_takeIfBetter_70 rfl ?_
          obtain ⟨A8, hv, h⟩ := ruB_inv h
          refine ru_putI2 ddX8_takeIfBetter_71 flX8_41 fp8_2 rfl hv ?_
          clear hv
          exact ru_vretW ddX8_takeIfBetter_74 rfl h
  replace h := hq
  clear hq
  refine ru_icmp_lt 41 ddX8_takeIfBetter_9 (by decide) (fun hc => ?_) (fun hc => ?_)
  · rw [if_pos hc] at h
    refine ru_iconst (0 : Int32) ddX8_takeIfBetter_41 rfl ?_
    refine ru_wk (L2 := [some (rurf E 65), some (.int x1), some (.int x2), none, some (.int v1), none]) ⟨rfl, rfl, rfl, rfl, trivial⟩ ?_
    obtain rfl := ruS1 h
    exact J
  · rw [if_neg hc] at h
    refine ru_iload ddX8_takeIfBetter_12 rfl ?_
    refine ru_aload_n ddX8_takeIfBetter_14 rfl ?_
    refine ru_getI ddX8_takeIfBetter_15 flX8_44 rfl ?_
    refine ru_icmp_ne 41 ddX8_takeIfBetter_18 (by decide) (fun hc => ?_) (fun hc => ?_)
    · rw [if_neg hc] at h
      refine ru_iconst (0 : Int32) ddX8_takeIfBetter_41 rfl ?_
      refine ru_wk (L2 := [some (rurf E 65), some (.int x1), some (.int x2), none, some (.int v1), none]) ⟨rfl, rfl, rfl, rfl, trivial⟩ ?_
      obtain rfl := ruS1 h
      exact J
    · rw [if_pos hc] at h
      refine ru_iload_n ddX8_takeIfBetter_21 rfl ?_
      refine ru_aload_n ddX8_takeIfBetter_22 rfl ?_
      refine ru_getI ddX8_takeIfBetter_23 flX8_38 rfl ?_
      refine ru_icmp_ne 41 ddX8_takeIfBetter_26 (by decide) (fun hc => ?_) (fun hc => ?_)
      · rw [if_neg hc] at h
        refine ru_iconst (0 : Int32) ddX8_takeIfBetter_41 rfl ?_
        refine ru_wk (L2 := [some (rurf E 65), some (.int x1), some (.int x2), none, some (.int v1), none]) ⟨rfl, rfl, rfl, rfl, trivial⟩ ?_
        obtain rfl := ruS1 h
        exact J
      · rw [if_pos hc] at h
        refine ru_iload_n ddX8_takeIfBetter_29 rfl ?_
        refine ru_aload_n ddX8_takeIfBetter_30 rfl ?_
        refine ru_getI ddX8_takeIfBetter_31 flX8_41 rfl ?_
        refine ru_icmp_ge 41 ddX8_takeIfBetter_34 (by decide) (fun hc => ?_) (fun hc => ?_)
        · rw [if_pos hc] at h
          refine ru_iconst (0 : Int32) ddX8_takeIfBetter_41 rfl ?_
          refine ru_wk (L2 := [some (rurf E 65), some (.int x1), some (.int x2), none, some (.int v1), none]) ⟨rfl, rfl, rfl, rfl, trivial⟩ ?_
          obtain rfl := ruS1 h
          exact J
        · rw [if_neg hc] at h
          refine ru_iconst (1 : Int32) ddX8_takeIfBetter_37 rfl ?_
          refine ru_goto 42 ddX8_takeIfBetter_38 (by decide) ?_
          refine ru_wk (L2 := [some (rurf E 65), some (.int x1), some (.int x2), none, some (.int v1), none]) ⟨rfl, rfl, rfl, rfl, trivial⟩ ?_
          obtain rfl := ruS1 h
          exact J
theorem wX8_lookAt_l15 {E : ruE} {d : Nat} (hd : 3 ≤ d) {β : Type} {Q : Option Value → ruA → Prop} {res : β} (x1 : Int32) (x2 : Int32) (x3 : Int32) (x4 : Int32) {k85 : ruA → Option (β)} (hk85 : ∀ (A : ruA), k85 A = some res → ruW E mmX8_lookAt d Q 85 [none, none, none, none, none, none, none, none] [] A) : ∀ (n : Nat) (x5 : Int32) (x6 : Int32) (A : ruA), fX8_lookAt_l15 x1 x2 x3 x4 k85 n x5 x6 A = some res → ruW E mmX8_lookAt d Q 15 [some (rurf E 65), some (.int x1), some (.int x2), some (.int x3), some (.int x4), some (.int x5), some (.int x6), none] [] A := by
  intro n
  induction n with
  | zero =>
    intro x5 x6 A h
    exact absurd h (by rw [fX8_lookAt_l15]; exact fun h => nomatch h)
  | succ n ih =>
    intro x5 x6 A h
    rw [fX8_lookAt_l15] at h
    refine ru_iload ddX8_lookAt_15 rfl ?_
    refine ru_aload_n ddX8_lookAt_17 rfl ?_
    refine ru_getI ddX8_lookAt_18 flX8_51 rfl ?_
    refine ru_icmp_ge 85 ddX8_lookAt_21 (by decide) (fun hc => ?_) (fun hc => ?_)
    · rw [if_pos hc] at h
      refine ru_wk (L2 := [none, none, none, none, none, none, none, none]) trivial ?_
      exact hk85 A h
    · rw [if_neg hc] at h
      refine ru_iload ddX8_lookAt_24 rfl ?_
      refine ru_aload_n ddX8_lookAt_26 rfl ?_
      refine ru_getR (r := 66) ddX8_lookAt_27 flX8_9 rfl rfl ?_
      refine ru_iload ddX8_lookAt_30 rfl ?_
      obtain ⟨v1, hv, h⟩ := ruB_inv h
      refine ru_iald ddX8_lookAt_32 rfl hv ?_
      clear hv
      obtain ⟨v2, hv, h⟩ := ruB_inv h
      refine ru_callNi (as := [.int x5, .int v1]) (st := []) ddX8_lookAt_33 cnX8_79 (wX10_has 1 (Nat.le_refl _) x5 v1 A hv) rfl (Nat.le_trans (m := 3) (by decide) hd) (Nat.le_of_ble_eq_true rfl) ?_
      clear hv
      obtain ⟨v3, A4, hq, h⟩ := ruB2_inv h
      have J : ruW E mmX8_lookAt d Q 79 [some (rurf E 65), some (.int x1), some (.int x2), some (.int x3), some (.int x4), some (.int v3), some (.int x6), none] [] A4 := by
          refine ru_iinc (x6 + (1 : Int32)) ddX8_lookAt_79 (by decide) rfl rfl rfl rfl ?_
          refine ru_goto 15 ddX8_lookAt_82 (by decide) ?_
          exact ih v3 (x6 + (1 : Int32)) A4 h
      replace h := hq
      clear hq
      refine ru_if_ne 79 ddX8_lookAt_36 (by decide) (fun hc => ?_) (fun hc => ?_)
      · rw [if_neg hc] at h
        refine ru_wk (L2 := [some (rurf E 65), some (.int x1), some (.int x2), some (.int x3), some (.int x4), some (.int x5), some (.int x6), none]) ⟨rfl, rfl, rfl, rfl, rfl, rfl, rfl, trivial⟩ ?_
        obtain ⟨rfl, rfl⟩ := ruS2 h
        exact J
      · rw [if_pos hc] at h
        refine ru_aload_n ddX8_lookAt_39 rfl ?_
        refine ru_getR (r := 68) ddX8_lookAt_40 flX8_19 rfl rfl ?_
        refine ru_iload ddX8_lookAt_43 rfl ?_
        obtain ⟨v5, hv, h⟩ := ruB_inv h
        refine ru_iald ddX8_lookAt_45 rfl hv ?_
        clear hv
        refine ru_iload ddX8_lookAt_46 rfl ?_
        refine ru_iand ddX8_lookAt_48 ?_
        refine ru_iload ddX8_lookAt_49 rfl ?_
        refine ru_icmp_ne 79 ddX8_lookAt_51 (by decide) (fun hc => ?_) (fun hc => ?_)
        · rw [if_neg hc] at h
          refine ru_wk (L2 := [some (rurf E 65), some (.int x1), some (.int x2), some (.int x3), some (.int x4), some (.int x5), some (.int x6), none]) ⟨rfl, rfl, rfl, rfl, rfl, rfl, rfl, trivial⟩ ?_
          obtain ⟨rfl, rfl⟩ := ruS2 h
          exact J
        · rw [if_pos hc] at h
          refine ru_aload_n ddX8_lookAt_54 rfl ?_
          refine ru_iload ddX8_lookAt_55 rfl ?_
          refine ru_iload_n ddX8_lookAt_57 rfl ?_
          refine ru_iload_n ddX8_lookAt_58 rfl ?_
          obtain ⟨v6, hv, h⟩ := ruB_inv h
          refine ru_callVi (as := [.int x6, .int x1, .int x2]) (st := []) ddX8_lookAt_59 cvX8_83 rfl (wX8_alikeTo 1 (Nat.le_refl _) x6 x1 x2 A hv) rfl (Nat.le_trans (m := 3) (by decide) hd) (Nat.le_of_ble_eq_true rfl) ?_
          clear hv
          refine ru_istore ddX8_lookAt_62 (by decide) rfl rfl ?_
          refine ru_iload ddX8_lookAt_64 rfl ?_
          refine ru_iload ddX8_lookAt_66 rfl ?_
          refine ru_ior ddX8_lookAt_68 ?_
          refine ru_istore ddX8_lookAt_69 (by decide) rfl rfl ?_
          refine ru_aload_n ddX8_lookAt_71 rfl ?_
          refine ru_iload ddX8_lookAt_72 rfl ?_
          refine ru_iload_n ddX8_lookAt_74 rfl ?_
          refine ru_iload_n ddX8_lookAt_75 rfl ?_
          obtain ⟨A7, hv, h⟩ := ruB_inv h
          refine ru_callVv (as := [.int v6, .int x1, .int x3]) (st := []) ddX8_lookAt_76 cvX8_87 rfl (wX8_takeIfBetter 2 (Nat.le_refl _) v6 x1 x3 A hv) rfl (Nat.le_trans (m := 3) (by decide) hd) (Nat.le_of_ble_eq_true rfl) ?_
          clear hv
          refine ru_wk (L2 := [some (rurf E 65), some (.int x1), some (.int x2), some (.int x3), some (.int x4), some (.int (x5 ||| v6)), some (.int x6), none]) ⟨rfl, rfl, rfl, rfl, rfl, rfl, rfl, trivial⟩ ?_
          obtain ⟨rfl, rfl⟩ := ruS2 h
          exact J
theorem wX8_lookAt {E : ruE} (d : Nat) (hd : 3 ≤ d) (x1 : Int32) (x2 : Int32) (x3 : Int32) (A : ruA) {B : ruA} (h : fX8_lookAt x1 x2 x3 A = some B) : ruC E mmX8_lookAt d [rurf E 65, .int x1, .int x2, .int x3] A (ruPv B) := by
  refine ruC.of (L := [some (rurf E 65), some (.int x1), some (.int x2), some (.int x3), none, none, none, none]) (by decide) rfl (Nat.le_of_ble_eq_true rfl) rfl ?_
  unfold fX8_lookAt at h
  refine ru_iconst (1 : Int32) ddX8_lookAt_0 rfl ?_
  refine ru_iload_n ddX8_lookAt_1 rfl ?_
  refine ru_ishl ddX8_lookAt_2 ?_
  refine ru_iconst (1 : Int32) ddX8_lookAt_3 rfl ?_
  refine ru_isub ddX8_lookAt_4 ?_
  refine ru_iload_n ddX8_lookAt_5 rfl ?_
  refine ru_ishl ddX8_lookAt_6 ?_
  refine ru_istore ddX8_lookAt_7 (by decide) rfl rfl ?_
  refine ru_iconst (0 : Int32) ddX8_lookAt_9 rfl ?_
  refine ru_istore ddX8_lookAt_10 (by decide) rfl rfl ?_
  refine ru_iconst (0 : Int32) ddX8_lookAt_12 rfl ?_
  refine ru_istore ddX8_lookAt_13 (by decide) rfl rfl ?_
  exact wX8_lookAt_l15 hd x1 x2 x3 ((((1 : Int32) <<< (x2 &&& 31)) - (1 : Int32)) <<< (x1 &&& 31)) (fun A8 h => by
        exact ru_vretW ddX8_lookAt_85 rfl h) ruF (0 : Int32) (0 : Int32) A h
theorem wX8_find_l41 {E : ruE} {d : Nat} (hd : 4 ≤ d) {β : Type} {Q : Option Value → ruA → Prop} {res : β} (x3 : Int32) (x4 : Int32) {k66 : ruA → Option (β)} (hk66 : ∀ (A : ruA), k66 A = some res → ruW E mmX8_find d Q 66 [some (rurf E 65), none, none, some (.int x3), some (.int x4), none] [] A) : ∀ (n : Nat) (x5 : Int32) (A : ruA), fX8_find_l41 x3 x4 k66 n x5 A = some res → ruW E mmX8_find d Q 41 [some (rurf E 65), none, none, some (.int x3), some (.int x4), some (.int x5)] [] A := by
  intro n
  induction n with
  | zero =>
    intro x5 A h
    exact absurd h (by rw [fX8_find_l41]; exact fun h => nomatch h)
  | succ n ih =>
    intro x5 A h
    rw [fX8_find_l41] at h
    refine ru_iload ddX8_find_41 rfl ?_
    refine ru_bipush (12 : Int32) ddX8_find_43 rfl ?_
    refine ru_iload ddX8_find_45 rfl ?_
    refine ru_isub ddX8_find_47 ?_
    refine ru_icmp_gt 66 ddX8_find_48 (by decide) (fun hc => ?_) (fun hc => ?_)
    · rw [if_pos hc] at h
      refine ru_wk (L2 := [some (rurf E 65), none, none, some (.int x3), some (.int x4), none]) ⟨rfl, rfl, rfl, trivial⟩ ?_
      exact hk66 A h
    · rw [if_neg hc] at h
      refine ru_aload_n ddX8_find_51 rfl ?_
      refine ru_iload ddX8_find_52 rfl ?_
      refine ru_iload ddX8_find_54 rfl ?_
      refine ru_iload_n ddX8_find_56 rfl ?_
      obtain ⟨A6, hv, h⟩ := ruB_inv h
      refine ru_callVv (as := [.int x5, .int x4, .int x3]) (st := []) ddX8_find_57 cvX8_47 rfl (wX8_lookAt 3 (Nat.le_refl _) x5 x4 x3 A hv) rfl (Nat.le_trans (m := 4) (by decide) hd) (Nat.le_of_ble_eq_true rfl) ?_
      clear hv
      refine ru_iinc (x5 + (1 : Int32)) ddX8_find_60 (by decide) rfl rfl rfl rfl ?_
      refine ru_goto 41 ddX8_find_63 (by decide) ?_
      exact ih (x5 + (1 : Int32)) A6 h
theorem wX8_find_l24 {E : ruE} {d : Nat} (hd : 4 ≤ d) {β : Type} {Q : Option Value → ruA → Prop} {res : β} (x3 : Int32) {k74 : ruA → Option (β)} {k87 : ruA → Option (β)} (hk74 : ∀ (A : ruA), k74 A = some res → ruW E mmX8_find d Q 74 [none, none, none, none, none, none] [] A) (hk87 : ∀ (A : ruA), k87 A = some res → ruW E mmX8_find d Q 87 [none, none, none, none, none, none] [] A) : ∀ (n : Nat) (x4 : Int32) (A : ruA), fX8_find_l24 x3 k74 k87 n x4 A = some res → ruW E mmX8_find d Q 24 [some (rurf E 65), none, none, some (.int x3), some (.int x4), none] [] A := by
  intro n
  induction n with
  | zero =>
    intro x4 A h
    exact absurd h (by rw [fX8_find_l24]; exact fun h => nomatch h)
  | succ n ih =>
    intro x4 A h
    rw [fX8_find_l24] at h
    refine ru_iload ddX8_find_24 rfl ?_
    refine ru_bipush (12 : Int32) ddX8_find_26 rfl ?_
    refine ru_icmp_gt 87 ddX8_find_28 (by decide) (fun hc => ?_) (fun hc => ?_)
    · rw [if_pos hc] at h
      refine ru_wk (L2 := [none, none, none, none, none, none]) trivial ?_
      exact hk87 A h
    · rw [if_neg hc] at h
      refine ru_aload_n ddX8_find_31 rfl ?_
      refine ru_iload_n ddX8_find_32 rfl ?_
      refine ru_iconst (1 : Int32) ddX8_find_33 rfl ?_
      refine ru_isub ddX8_find_34 ?_
      obtain ⟨A5, hv, h⟩ := ruB_inv h
      refine ru_putI2 ddX8_find_35 flX8_44 fp8_3 rfl hv ?_
      clear hv
      refine ru_iconst (0 : Int32) ddX8_find_38 rfl ?_
      refine ru_istore ddX8_find_39 (by decide) rfl rfl ?_
      exact wX8_find_l41 hd x3 x4 (fun A7 h => by
            refine ru_aload_n ddX8_find_66 rfl ?_
            refine ru_getI ddX8_find_67 flX8_44 rfl ?_
            refine ru_iload_n ddX8_find_70 rfl ?_
            refine ru_icmp_ge 75 ddX8_find_71 (by decide) (fun hc => ?_) (fun hc => ?_)
            · rw [if_pos hc] at h
              refine ru_aload_n ddX8_find_75 rfl ?_
              refine ru_iload ddX8_find_76 rfl ?_
              obtain ⟨A8, hv, h⟩ := ruB_inv h
              refine ru_putI2 ddX8_find_78 flX8_34 fp8_0 rfl hv ?_
              clear hv
              refine ru_iinc (x4 + (1 : Int32)) ddX8_find_81 (by decide) rfl rfl rfl rfl ?_
              refine ru_goto 24 ddX8_find_84 (by decide) ?_
              exact ih (x4 + (1 : Int32)) A8 h
            · rw [if_neg hc] at h
              refine ru_wk (L2 := [none, none, none, none, none, none]) trivial ?_
              exact hk74 A7 h) ruF (0 : Int32) A5 h
theorem wX8_find {E : ruE} (d : Nat) (hd : 4 ≤ d) (x1 : Int32) (x2 : Int32) (x3 : Int32) (A : ruA) {B : ruA} (h : fX8_find x1 x2 x3 A = some B) : ruC E mmX8_find d [rurf E 65, .int x1, .int x2, .int x3] A (ruPv B) := by
  refine ruC.of (L := [some (rurf E 65), some (.int x1), some (.int x2), some (.int x3), none, none]) (by decide) rfl (Nat.le_of_ble_eq_true rfl) rfl ?_
  unfold fX8_find at h
  refine ru_aload_n ddX8_find_0 rfl ?_
  refine ru_iload_n ddX8_find_1 rfl ?_
  refine ru_iload_n ddX8_find_2 rfl ?_
  obtain ⟨A1, hv, h⟩ := ruB_inv h
  refine ru_callVv (as := [.int x1, .int x2]) (st := []) ddX8_find_3 cvX8_30 rfl (wX8_gather 3 (Nat.le_refl _) x1 x2 A hv) rfl (Nat.le_trans (m := 4) (by decide) hd) (Nat.le_of_ble_eq_true rfl) ?_
  clear hv
  refine ru_aload_n ddX8_find_6 rfl ?_
  refine ru_iconst (0 : Int32) ddX8_find_7 rfl ?_
  obtain ⟨A2, hv, h⟩ := ruB_inv h
  refine ru_putI2 ddX8_find_8 flX8_34 fp8_0 rfl hv ?_
  clear hv
  refine ru_aload_n ddX8_find_11 rfl ?_
  refine ru_iconst (-1 : Int32) ddX8_find_12 rfl ?_
  obtain ⟨A3, hv, h⟩ := ruB_inv h
  refine ru_putI2 ddX8_find_13 flX8_38 fp8_1 rfl hv ?_
  clear hv
  refine ru_aload_n ddX8_find_16 rfl ?_
  refine ru_iconst (0 : Int32) ddX8_find_17 rfl ?_
  obtain ⟨A4, hv, h⟩ := ruB_inv h
  refine ru_putI2 ddX8_find_18 flX8_41 fp8_2 rfl hv ?_
  clear hv
  refine ru_iconst (1 : Int32) ddX8_find_21 rfl ?_
  refine ru_istore ddX8_find_22 (by decide) rfl rfl ?_
  refine ru_wk (L2 := [some (rurf E 65), none, none, some (.int x3), some (.int (1 : Int32)), none]) ⟨rfl, rfl, rfl, trivial⟩ ?_
  exact wX8_find_l24 hd x3 (fun A9 h => by
        exact ru_vretW ddX8_find_74 rfl h) (fun A10 h => by
        exact ru_vretW ddX8_find_87 rfl h) ruF (1 : Int32) A4 h
theorem wX3_of_l29 {E : ruE} {d : Nat} (hd : 5 ≤ d) {β : Type} {Q : Option Value → ruA → Prop} {res : β} (x1 : Int32) (x2 : Int32) (x3 : Int32) (A : ruA) {k91 : Int32 → Option (β)} (hk91 : ∀ (x4 : Int32), k91 x4 = some res → ruW E mmX3_of d Q 91 [none, none, none, none, some (.int x4), none] [] A) : ∀ (n : Nat) (x4 : Int32) (x5 : Int32), fX3_of_l29 x1 x2 x3 A k91 n x4 x5 = some res → ruW E mmX3_of d Q 29 [some (rurf E 63), some (.int x1), some (.int x2), some (.int x3), some (.int x4), some (.int x5)] [] A := by
  intro n
  induction n with
  | zero =>
    intro x4 x5 h
    exact absurd h (by rw [fX3_of_l29]; exact fun h => nomatch h)
  | succ n ih =>
    intro x4 x5 h
    rw [fX3_of_l29] at h
    refine ru_iload ddX3_of_29 rfl ?_
    refine ru_aload_n ddX3_of_31 rfl ?_
    refine ru_getR (r := 2) ddX3_of_32 flX3_15 rfl rfl ?_
    refine ru_getI ddX3_of_35 flX3_32 rfl ?_
    refine ru_icmp_ge 91 ddX3_of_38 (by decide) (fun hc => ?_) (fun hc => ?_)
    · rw [if_pos hc] at h
      refine ru_wk (L2 := [none, none, none, none, some (.int x4), none]) ⟨rfl, trivial⟩ ?_
      exact hk91 x4 h
    · rw [if_neg hc] at h
      refine ru_aload_n ddX3_of_41 rfl ?_
      refine ru_getR (r := 2) ddX3_of_42 flX3_15 rfl rfl ?_
      refine ru_getR (r := 5) ddX3_of_45 flX3_38 rfl rfl ?_
      refine ru_iload ddX3_of_48 rfl ?_
      obtain ⟨v1, hv, h⟩ := ruB_inv h
      refine ru_iald ddX3_of_50 rfl hv ?_
      clear hv
      refine ru_iload_n ddX3_of_51 rfl ?_
      obtain ⟨v2, hq, h⟩ := ruB_inv h
      have J : ruW E mmX3_of d Q 85 [some (rurf E 63), some (.int x1), some (.int x2), some (.int x3), some (.int v2), some (.int x5)] [] A := by
          refine ru_iinc (x5 + (1 : Int32)) ddX3_of_85 (by decide) rfl rfl rfl rfl ?_
          refine ru_goto 29 ddX3_of_88 (by decide) ?_
          exact ih v2 (x5 + (1 : Int32)) h
      replace h := hq
      clear hq
      refine ru_icmp_ne 85 ddX3_of_52 (by decide) (fun hc => ?_) (fun hc => ?_)
      · rw [if_neg hc] at h
        refine ru_wk (L2 := [some (rurf E 63), some (.int x1), some (.int x2), some (.int x3), some (.int x4), some (.int x5)]) ⟨rfl, rfl, rfl, rfl, rfl, rfl, trivial⟩ ?_
        obtain rfl := ruS1 h
        exact J
      · rw [if_pos hc] at h
        refine ru_aload_n ddX3_of_55 rfl ?_
        refine ru_getR (r := 9) ddX3_of_56 flX3_19 rfl rfl ?_
        refine ru_getR (r := 10) ddX3_of_59 flX3_41 rfl rfl ?_
        refine ru_iload ddX3_of_62 rfl ?_
        refine ru_iload_n ddX3_of_64 rfl ?_
        obtain ⟨v3, hv, h⟩ := ruB_inv h
        refine ru_callSi (as := [.int x5, .int x3]) (st := [rurf E 10]) ddX3_of_65 csX3_47 (wX6_place 1 (Nat.le_refl _) x5 x3 A hv) rfl (Nat.le_trans (m := 5) (by decide) hd) (Nat.le_of_ble_eq_true rfl) ?_
        clear hv
        obtain ⟨v4, hv, h⟩ := ruB_inv h
        refine ru_zald ddX3_of_68 rfl hv ?_
        clear hv
        refine ru_if_eq 85 ddX3_of_69 (by decide) (fun hc => ?_) (fun hc => ?_)
        · rw [if_pos hc] at h
          refine ru_wk (L2 := [some (rurf E 63), some (.int x1), some (.int x2), some (.int x3), some (.int x4), some (.int x5)]) ⟨rfl, rfl, rfl, rfl, rfl, rfl, trivial⟩ ?_
          obtain rfl := ruS1 h
          exact J
        · rw [if_neg hc] at h
          refine ru_iload ddX3_of_72 rfl ?_
          refine ru_aload_n ddX3_of_74 rfl ?_
          refine ru_iload_n ddX3_of_75 rfl ?_
          refine ru_iload ddX3_of_76 rfl ?_
          refine ru_iload_n ddX3_of_78 rfl ?_
          obtain ⟨v5, hv, h⟩ := ruB_inv h
          refine ru_callVi (as := [.int x1, .int x5, .int x3]) (st := [.int x4]) ddX3_of_79 cvX3_58 rfl (wX3_ofChild 4 (Nat.le_refl _) x1 x5 x3 A hv) rfl (Nat.le_trans (m := 5) (by decide) hd) (Nat.le_of_ble_eq_true rfl) ?_
          clear hv
          refine ru_iadd ddX3_of_82 ?_
          refine ru_istore ddX3_of_83 (by decide) rfl rfl ?_
          refine ru_wk (L2 := [some (rurf E 63), some (.int x1), some (.int x2), some (.int x3), some (.int (x4 + v5)), some (.int x5)]) ⟨rfl, rfl, rfl, rfl, rfl, rfl, trivial⟩ ?_
          obtain rfl := ruS1 h
          exact J
theorem wX3_of {E : ruE} (d : Nat) (hd : 5 ≤ d) (x1 : Int32) (x2 : Int32) (x3 : Int32) (A : ruA) {r : Int32} {B : ruA} (h : fX3_of x1 x2 x3 A = some (r, B)) : ruC E mmX3_of d [rurf E 63, .int x1, .int x2, .int x3] A (ruPr r B) := by
  refine ruC.of (L := [some (rurf E 63), some (.int x1), some (.int x2), some (.int x3), none, none]) (by decide) rfl (Nat.le_of_ble_eq_true rfl) rfl ?_
  unfold fX3_of at h
  refine ru_iload_n ddX3_of_0 rfl ?_
  refine ru_iconst (2 : Int32) ddX3_of_1 rfl ?_
  refine ru_icmp_ne 23 ddX3_of_2 (by decide) (fun hc => ?_) (fun hc => ?_)
  · rw [if_neg hc] at h
    refine ru_iconst (0 : Int32) ddX3_of_23 rfl ?_
    refine ru_istore ddX3_of_24 (by decide) rfl rfl ?_
    refine ru_iconst (0 : Int32) ddX3_of_26 rfl ?_
    refine ru_istore ddX3_of_27 (by decide) rfl rfl ?_
    exact wX3_of_l29 hd x1 x2 x3 A (fun v6 h => by
          refine ru_iload ddX3_of_91 rfl ?_
          exact ru_iretW ddX3_of_93 rfl h) ruF (0 : Int32) (0 : Int32) h
  · rw [if_pos hc] at h
    refine ru_aload_n ddX3_of_5 rfl ?_
    refine ru_getR (r := 65) ddX3_of_6 flX3_28 rfl rfl ?_
    refine ru_iload_n ddX3_of_9 rfl ?_
    refine ru_iload_n ddX3_of_10 rfl ?_
    refine ru_iconst (3 : Int32) ddX3_of_11 rfl ?_
    obtain ⟨A7, hv, h⟩ := ruB_inv h
    refine ru_callVv (as := [.int x2, .int x3, .int (3 : Int32)]) (st := []) ddX3_of_12 cvX3_51 rfl (wX8_find 4 (Nat.le_refl _) x2 x3 (3 : Int32) A hv) rfl (Nat.le_trans (m := 5) (by decide) hd) (Nat.le_of_ble_eq_true rfl) ?_
    clear hv
    refine ru_aload_n ddX3_of_15 rfl ?_
    refine ru_getR (r := 65) ddX3_of_16 flX3_28 rfl rfl ?_
    refine ru_getI ddX3_of_19 flX3_55 rfl ?_
    exact ru_iretW ddX3_of_22 rfl h
theorem wX10_measure {E : ruE} (d : Nat) (hd : 6 ≤ d) (x1 : Int32) (x2 : Int32) (x3 : Int32) (A : ruA) {r : Int32} {B : ruA} (h : fX10_measure x1 x2 x3 A = some (r, B)) : ruC E mmX10_measure d [rurf E 0, .int x1, .int x2, .int x3] A (ruPr r B) := by
  refine ruC.of (L := [some (rurf E 0), some (.int x1), some (.int x2), some (.int x3)]) (by decide) rfl (Nat.le_of_ble_eq_true rfl) rfl ?_
  unfold fX10_measure at h
  refine ru_aload_n ddX10_measure_0 rfl ?_
  refine ru_iload_n ddX10_measure_1 rfl ?_
  obtain ⟨v1, hv, h⟩ := ruB_inv h
  refine ru_callVi (as := [.int x1]) (st := []) ddX10_measure_2 cvX10_98 rfl (wX10_isRoom 2 (Nat.le_refl _) x1 A hv) rfl (Nat.le_trans (m := 6) (by decide) hd) (Nat.le_of_ble_eq_true rfl) ?_
  clear hv
  refine ru_if_eq 25 ddX10_measure_5 (by decide) (fun hc => ?_) (fun hc => ?_)
  · rw [if_pos hc] at h
    refine ru_aload_n ddX10_measure_25 rfl ?_
    refine ru_ldc (v := (-1000001 : Int32)) ddX10_measure_26 ckX10_81 ?_
    obtain ⟨v2, A3, hv, h⟩ := ruB2_inv h
    refine ru_callVi (as := [.int (-1000001 : Int32)]) (st := []) ddX10_measure_28 cvX10_82 rfl (wX10_finding 2 (Nat.le_refl _) (-1000001 : Int32) A hv) rfl (Nat.le_trans (m := 6) (by decide) hd) (Nat.le_of_ble_eq_true rfl) ?_
    clear hv
    exact ru_iretW ddX10_measure_31 rfl h
  · rw [if_neg hc] at h
    refine ru_iload_n ddX10_measure_8 rfl ?_
    obtain ⟨v4, hv, h⟩ := ruB_inv h
    refine ru_callSi (as := [.int x2]) (st := []) ddX10_measure_9 csX10_203 (wX10_isYear 2 (Nat.le_refl _) x2 A hv) rfl (Nat.le_trans (m := 6) (by decide) hd) (Nat.le_of_ble_eq_true rfl) ?_
    clear hv
    refine ru_if_eq 25 ddX10_measure_12 (by decide) (fun hc => ?_) (fun hc => ?_)
    · rw [if_pos hc] at h
      refine ru_aload_n ddX10_measure_25 rfl ?_
      refine ru_ldc (v := (-1000001 : Int32)) ddX10_measure_26 ckX10_81 ?_
      obtain ⟨v5, A6, hv, h⟩ := ruB2_inv h
      refine ru_callVi (as := [.int (-1000001 : Int32)]) (st := []) ddX10_measure_28 cvX10_82 rfl (wX10_finding 2 (Nat.le_refl _) (-1000001 : Int32) A hv) rfl (Nat.le_trans (m := 6) (by decide) hd) (Nat.le_of_ble_eq_true rfl) ?_
      clear hv
      exact ru_iretW ddX10_measure_31 rfl h
    · rw [if_neg hc] at h
      refine ru_iload_n ddX10_measure_15 rfl ?_
      refine ru_iconst (0 : Int32) ddX10_measure_16 rfl ?_
      refine ru_bipush (6 : Int32) ddX10_measure_17 rfl ?_
      obtain ⟨v7, hv, h⟩ := ruB_inv h
      refine ru_callSi (as := [.int x3, .int (0 : Int32), .int (6 : Int32)]) (st := []) ddX10_measure_19 csX10_77 (wX10_isWithin 1 (Nat.le_refl _) x3 (0 : Int32) (6 : Int32) A hv) rfl (Nat.le_trans (m := 6) (by decide) hd) (Nat.le_of_ble_eq_true rfl) ?_
      clear hv
      refine ru_if_ne 32 ddX10_measure_22 (by decide) (fun hc => ?_) (fun hc => ?_)
      · rw [if_neg hc] at h
        refine ru_aload_n ddX10_measure_32 rfl ?_
        refine ru_getR (r := 63) ddX10_measure_33 flX10_38 rfl rfl ?_
        refine ru_iload_n ddX10_measure_36 rfl ?_
        refine ru_iload_n ddX10_measure_37 rfl ?_
        obtain ⟨v8, hv, h⟩ := ruB_inv h
        refine ru_callVi (as := [.int x1, .int x2]) (st := []) ddX10_measure_38 cvX10_238 rfl (wX3_hasSheets 2 (Nat.le_refl _) x1 x2 A hv) rfl (Nat.le_trans (m := 6) (by decide) hd) (Nat.le_of_ble_eq_true rfl) ?_
        clear hv
        refine ru_if_ne 51 ddX10_measure_41 (by decide) (fun hc => ?_) (fun hc => ?_)
        · rw [if_neg hc] at h
          refine ru_aload_n ddX10_measure_51 rfl ?_
          refine ru_dup ddX10_measure_52 rfl ?_
          refine ru_getI ddX10_measure_53 flX10_70 rfl ?_
          refine ru_iconst (1 : Int32) ddX10_measure_56 rfl ?_
          refine ru_iadd ddX10_measure_57 ?_
          obtain ⟨A9, hv, h⟩ := ruB_inv h
          refine ru_putI2 ddX10_measure_58 flX10_70 fp10_12 rfl hv ?_
          clear hv
          refine ru_aload_n ddX10_measure_61 rfl ?_
          refine ru_getR (r := 63) ddX10_measure_62 flX10_38 rfl rfl ?_
          refine ru_iload_n ddX10_measure_65 rfl ?_
          refine ru_iload_n ddX10_measure_66 rfl ?_
          refine ru_iload_n ddX10_measure_67 rfl ?_
          obtain ⟨v10, A11, hv, h⟩ := ruB2_inv h
          refine ru_callVi (as := [.int x3, .int x1, .int x2]) (st := []) ddX10_measure_68 cvX10_241 rfl (wX3_of 5 (Nat.le_refl _) x3 x1 x2 A9 hv) rfl (Nat.le_trans (m := 6) (by decide) hd) (Nat.le_of_ble_eq_true rfl) ?_
          clear hv
          exact ru_iretW ddX10_measure_71 rfl h
        · rw [if_pos hc] at h
          refine ru_aload_n ddX10_measure_44 rfl ?_
          refine ru_ldc (v := (-1000004 : Int32)) ddX10_measure_45 ckX10_202 ?_
          obtain ⟨v12, A13, hv, h⟩ := ruB2_inv h
          refine ru_callVi (as := [.int (-1000004 : Int32)]) (st := []) ddX10_measure_47 cvX10_82 rfl (wX10_finding 2 (Nat.le_refl _) (-1000004 : Int32) A hv) rfl (Nat.le_trans (m := 6) (by decide) hd) (Nat.le_of_ble_eq_true rfl) ?_
          clear hv
          exact ru_iretW ddX10_measure_50 rfl h
      · rw [if_pos hc] at h
        refine ru_aload_n ddX10_measure_25 rfl ?_
        refine ru_ldc (v := (-1000001 : Int32)) ddX10_measure_26 ckX10_81 ?_
        obtain ⟨v14, A15, hv, h⟩ := ruB2_inv h
        refine ru_callVi (as := [.int (-1000001 : Int32)]) (st := []) ddX10_measure_28 cvX10_82 rfl (wX10_finding 2 (Nat.le_refl _) (-1000001 : Int32) A hv) rfl (Nat.le_trans (m := 6) (by decide) hd) (Nat.le_of_ble_eq_true rfl) ?_
        clear hv
        exact ru_iretW ddX10_measure_31 rfl h
theorem wX10_looked {E : ruE} (d : Nat) (hd : 1 ≤ d) (A : ruA) {r : Int32} (h : fX10_looked A = some r) : ruC E mmX10_looked d [rurf E 0] A (ruPr r A) := by
  refine ruC.of (L := [some (rurf E 0)]) (by decide) rfl (Nat.le_of_ble_eq_true rfl) rfl ?_
  unfold fX10_looked at h
  refine ru_aload_n ddX10_looked_0 rfl ?_
  refine ru_getI ddX10_looked_1 flX10_70 rfl ?_
  exact ru_iretP ddX10_looked_4 rfl h
theorem wX10_string {E : ruE} (d : Nat) (hd : 5 ≤ d) (x1 : Int32) (x2 : Int32) (x3 : Int32) (x4 : Int32) (A : ruA) {r : Int32} {B : ruA} (h : fX10_string x1 x2 x3 x4 A = some (r, B)) : ruC E mmX10_string d [rurf E 0, .int x1, .int x2, .int x3, .int x4] A (ruPr r B) := by
  refine ruC.of (L := [some (rurf E 0), some (.int x1), some (.int x2), some (.int x3), some (.int x4), none]) (by decide) rfl (Nat.le_of_ble_eq_true rfl) rfl ?_
  unfold fX10_string at h
  refine ru_aload_n ddX10_string_0 rfl ?_
  refine ru_iload_n ddX10_string_1 rfl ?_
  obtain ⟨v1, hv, h⟩ := ruB_inv h
  refine ru_callVi (as := [.int x1]) (st := []) ddX10_string_2 cvX10_98 rfl (wX10_isRoom 2 (Nat.le_refl _) x1 A hv) rfl (Nat.le_trans (m := 5) (by decide) hd) (Nat.le_of_ble_eq_true rfl) ?_
  clear hv
  refine ru_if_eq 35 ddX10_string_5 (by decide) (fun hc => ?_) (fun hc => ?_)
  · rw [if_pos hc] at h
    refine ru_aload_n ddX10_string_35 rfl ?_
    refine ru_ldc (v := (-1000001 : Int32)) ddX10_string_36 ckX10_81 ?_
    obtain ⟨v2, A3, hv, h⟩ := ruB2_inv h
    refine ru_callVi (as := [.int (-1000001 : Int32)]) (st := []) ddX10_string_38 cvX10_82 rfl (wX10_finding 2 (Nat.le_refl _) (-1000001 : Int32) A hv) rfl (Nat.le_trans (m := 5) (by decide) hd) (Nat.le_of_ble_eq_true rfl) ?_
    clear hv
    exact ru_iretW ddX10_string_41 rfl h
  · rw [if_neg hc] at h
    refine ru_iload_n ddX10_string_8 rfl ?_
    obtain ⟨v4, hv, h⟩ := ruB_inv h
    refine ru_callSi (as := [.int x2]) (st := []) ddX10_string_9 csX10_203 (wX10_isYear 2 (Nat.le_refl _) x2 A hv) rfl (Nat.le_trans (m := 5) (by decide) hd) (Nat.le_of_ble_eq_true rfl) ?_
    clear hv
    refine ru_if_eq 35 ddX10_string_12 (by decide) (fun hc => ?_) (fun hc => ?_)
    · rw [if_pos hc] at h
      refine ru_aload_n ddX10_string_35 rfl ?_
      refine ru_ldc (v := (-1000001 : Int32)) ddX10_string_36 ckX10_81 ?_
      obtain ⟨v5, A6, hv, h⟩ := ruB2_inv h
      refine ru_callVi (as := [.int (-1000001 : Int32)]) (st := []) ddX10_string_38 cvX10_82 rfl (wX10_finding 2 (Nat.le_refl _) (-1000001 : Int32) A hv) rfl (Nat.le_trans (m := 5) (by decide) hd) (Nat.le_of_ble_eq_true rfl) ?_
      clear hv
      exact ru_iretW ddX10_string_41 rfl h
    · rw [if_neg hc] at h
      refine ru_iload_n ddX10_string_15 rfl ?_
      refine ru_iconst (2 : Int32) ddX10_string_16 rfl ?_
      refine ru_bipush (9 : Int32) ddX10_string_17 rfl ?_
      obtain ⟨v7, hv, h⟩ := ruB_inv h
      refine ru_callSi (as := [.int x3, .int (2 : Int32), .int (9 : Int32)]) (st := []) ddX10_string_19 csX10_77 (wX10_isWithin 1 (Nat.le_refl _) x3 (2 : Int32) (9 : Int32) A hv) rfl (Nat.le_trans (m := 5) (by decide) hd) (Nat.le_of_ble_eq_true rfl) ?_
      clear hv
      refine ru_if_eq 35 ddX10_string_22 (by decide) (fun hc => ?_) (fun hc => ?_)
      · rw [if_pos hc] at h
        refine ru_aload_n ddX10_string_35 rfl ?_
        refine ru_ldc (v := (-1000001 : Int32)) ddX10_string_36 ckX10_81 ?_
        obtain ⟨v8, A9, hv, h⟩ := ruB2_inv h
        refine ru_callVi (as := [.int (-1000001 : Int32)]) (st := []) ddX10_string_38 cvX10_82 rfl (wX10_finding 2 (Nat.le_refl _) (-1000001 : Int32) A hv) rfl (Nat.le_trans (m := 5) (by decide) hd) (Nat.le_of_ble_eq_true rfl) ?_
        clear hv
        exact ru_iretW ddX10_string_41 rfl h
      · rw [if_neg hc] at h
        refine ru_iload ddX10_string_25 rfl ?_
        refine ru_iconst (0 : Int32) ddX10_string_27 rfl ?_
        refine ru_iconst (2 : Int32) ddX10_string_28 rfl ?_
        obtain ⟨v10, hv, h⟩ := ruB_inv h
        refine ru_callSi (as := [.int x4, .int (0 : Int32), .int (2 : Int32)]) (st := []) ddX10_string_29 csX10_77 (wX10_isWithin 1 (Nat.le_refl _) x4 (0 : Int32) (2 : Int32) A hv) rfl (Nat.le_trans (m := 5) (by decide) hd) (Nat.le_of_ble_eq_true rfl) ?_
        clear hv
        refine ru_if_ne 42 ddX10_string_32 (by decide) (fun hc => ?_) (fun hc => ?_)
        · rw [if_neg hc] at h
          refine ru_aload_n ddX10_string_42 rfl ?_
          refine ru_getR (r := 63) ddX10_string_43 flX10_38 rfl rfl ?_
          refine ru_getR (r := 65) ddX10_string_46 flX10_245 rfl rfl ?_
          refine ru_astore ddX10_string_49 (by decide) rfl rfl ?_
          refine ru_aload ddX10_string_51 rfl ?_
          refine ru_iload_n ddX10_string_53 rfl ?_
          refine ru_iload_n ddX10_string_54 rfl ?_
          refine ru_iload_n ddX10_string_55 rfl ?_
          obtain ⟨A11, hv, h⟩ := ruB_inv h
          refine ru_callVv (as := [.int x1, .int x2, .int x3]) (st := []) ddX10_string_56 cvX10_249 rfl (wX8_find 4 (Nat.le_refl _) x1 x2 x3 A hv) rfl (Nat.le_trans (m := 5) (by decide) hd) (Nat.le_of_ble_eq_true rfl) ?_
          clear hv
          refine ru_iload ddX10_string_59 rfl ?_
          by_cases hc0 : x4 = (0 : Int32)
          · rw [if_pos hc0] at h
            refine ru_lokC 88 ddX10_string_61 (by decide) hc0 rfl (by decide) ?_
            refine ru_aload ddX10_string_88 rfl ?_
            refine ru_getI ddX10_string_90 flX10_254 rfl ?_
            exact ru_iretW ddX10_string_93 rfl h
          · rw [if_neg hc0] at h
            by_cases hc1 : x4 = (1 : Int32)
            · rw [if_pos hc1] at h
              refine ru_lokC 94 ddX10_string_61 (by decide) hc1 rfl (by decide) ?_
              refine ru_aload ddX10_string_94 rfl ?_
              refine ru_getI ddX10_string_96 flX10_257 rfl ?_
              exact ru_iretW ddX10_string_99 rfl h
            · rw [if_neg hc1] at h
              refine ru_lokD2 100 ddX10_string_61 hc0 hc1 (by decide) ?_
              refine ru_aload ddX10_string_100 rfl ?_
              refine ru_getI ddX10_string_102 flX10_260 rfl ?_
              exact ru_iretW ddX10_string_105 rfl h
        · rw [if_pos hc] at h
          refine ru_aload_n ddX10_string_35 rfl ?_
          refine ru_ldc (v := (-1000001 : Int32)) ddX10_string_36 ckX10_81 ?_
          obtain ⟨v12, A13, hv, h⟩ := ruB2_inv h
          refine ru_callVi (as := [.int (-1000001 : Int32)]) (st := []) ddX10_string_38 cvX10_82 rfl (wX10_finding 2 (Nat.le_refl _) (-1000001 : Int32) A hv) rfl (Nat.le_trans (m := 5) (by decide) hd) (Nat.le_of_ble_eq_true rfl) ?_
          clear hv
          exact ru_iretW ddX10_string_41 rfl h
theorem wX3_roomsWithSheets_l4 {E : ruE} {d : Nat} (hd : 3 ≤ d) {β : Type} {Q : Option Value → ruA → Prop} {res : β} (x1 : Int32) (A : ruA) {k36 : Int32 → Option (β)} (hk36 : ∀ (x2 : Int32), k36 x2 = some res → ruW E mmX3_roomsWithSheets d Q 36 [none, none, some (.int x2), none] [] A) : ∀ (n : Nat) (x2 : Int32) (x3 : Int32), fX3_roomsWithSheets_l4 x1 A k36 n x2 x3 = some res → ruW E mmX3_roomsWithSheets d Q 4 [some (rurf E 63), some (.int x1), some (.int x2), some (.int x3)] [] A := by
  intro n
  induction n with
  | zero =>
    intro x2 x3 h
    exact absurd h (by rw [fX3_roomsWithSheets_l4]; exact fun h => nomatch h)
  | succ n ih =>
    intro x2 x3 h
    rw [fX3_roomsWithSheets_l4] at h
    refine ru_iload_n ddX3_roomsWithSheets_4 rfl ?_
    refine ru_aload_n ddX3_roomsWithSheets_5 rfl ?_
    refine ru_getR (r := 2) ddX3_roomsWithSheets_6 flX3_15 rfl rfl ?_
    refine ru_getI ddX3_roomsWithSheets_9 flX3_85 rfl ?_
    refine ru_icmp_ge 36 ddX3_roomsWithSheets_12 (by decide) (fun hc => ?_) (fun hc => ?_)
    · rw [if_pos hc] at h
      refine ru_wk (L2 := [none, none, some (.int x2), none]) ⟨rfl, trivial⟩ ?_
      exact hk36 x2 h
    · rw [if_neg hc] at h
      refine ru_aload_n ddX3_roomsWithSheets_15 rfl ?_
      refine ru_iload_n ddX3_roomsWithSheets_16 rfl ?_
      refine ru_iload_n ddX3_roomsWithSheets_17 rfl ?_
      obtain ⟨v1, hv, h⟩ := ruB_inv h
      refine ru_callVi (as := [.int x3, .int x1]) (st := []) ddX3_roomsWithSheets_18 cvX3_88 rfl (wX3_hasSheets 2 (Nat.le_refl _) x3 x1 A hv) rfl (Nat.le_trans (m := 3) (by decide) hd) (Nat.le_of_ble_eq_true rfl) ?_
      clear hv
      obtain ⟨v2, hq, h⟩ := ruB_inv h
      have J : ruW E mmX3_roomsWithSheets d Q 30 [some (rurf E 63), some (.int x1), some (.int v2), some (.int x3)] [] A := by
          refine ru_iinc (x3 + (1 : Int32)) ddX3_roomsWithSheets_30 (by decide) rfl rfl rfl rfl ?_
          refine ru_goto 4 ddX3_roomsWithSheets_33 (by decide) ?_
          exact ih v2 (x3 + (1 : Int32)) h
      replace h := hq
      clear hq
      refine ru_if_eq 30 ddX3_roomsWithSheets_21 (by decide) (fun hc => ?_) (fun hc => ?_)
      · rw [if_pos hc] at h
        refine ru_wk (L2 := [some (rurf E 63), some (.int x1), some (.int x2), some (.int x3)]) ⟨rfl, rfl, rfl, rfl, trivial⟩ ?_
        obtain rfl := ruS1 h
        exact J
      · rw [if_neg hc] at h
        refine ru_iload_n ddX3_roomsWithSheets_24 rfl ?_
        refine ru_iconst (1 : Int32) ddX3_roomsWithSheets_25 rfl ?_
        refine ru_iload_n ddX3_roomsWithSheets_26 rfl ?_
        refine ru_ishl ddX3_roomsWithSheets_27 ?_
        refine ru_ior ddX3_roomsWithSheets_28 ?_
        refine ru_istore_n ddX3_roomsWithSheets_29 (by decide) rfl rfl ?_
        refine ru_wk (L2 := [some (rurf E 63), some (.int x1), some (.int (x2 ||| ((1 : Int32) <<< (x3 &&& 31)))), some (.int x3)]) ⟨rfl, rfl, rfl, rfl, trivial⟩ ?_
        obtain rfl := ruS1 h
        exact J
theorem wX3_roomsWithSheets {E : ruE} (d : Nat) (hd : 3 ≤ d) (x1 : Int32) (A : ruA) {r : Int32} (h : fX3_roomsWithSheets x1 A = some r) : ruC E mmX3_roomsWithSheets d [rurf E 63, .int x1] A (ruPr r A) := by
  refine ruC.of (L := [some (rurf E 63), some (.int x1), none, none]) (by decide) rfl (Nat.le_of_ble_eq_true rfl) rfl ?_
  unfold fX3_roomsWithSheets at h
  refine ru_iconst (0 : Int32) ddX3_roomsWithSheets_0 rfl ?_
  refine ru_istore_n ddX3_roomsWithSheets_1 (by decide) rfl rfl ?_
  refine ru_iconst (0 : Int32) ddX3_roomsWithSheets_2 rfl ?_
  refine ru_istore_n ddX3_roomsWithSheets_3 (by decide) rfl rfl ?_
  exact wX3_roomsWithSheets_l4 hd x1 A (fun v3 h => by
        refine ru_iload_n ddX3_roomsWithSheets_36 rfl ?_
        exact ru_iretP ddX3_roomsWithSheets_37 rfl h) ruF (0 : Int32) (0 : Int32) h
theorem wX3_workOut_l3 {E : ruE} {d : Nat} (hd : 6 ≤ d) {β : Type} {Q : Option Value → ruA → Prop} {res : β} (x1 : Int32) (x2 : Int32) (x3 : Int32) {k44 : ruA → Option (β)} (hk44 : ∀ (A : ruA), k44 A = some res → ruW E mmX3_workOut d Q 44 [none, none, none, none, none] [] A) : ∀ (n : Nat) (x4 : Int32) (A : ruA), fX3_workOut_l3 x1 x2 x3 k44 n x4 A = some res → ruW E mmX3_workOut d Q 3 [some (rurf E 63), some (.int x1), some (.int x2), some (.int x3), some (.int x4)] [] A := by
  intro n
  induction n with
  | zero =>
    intro x4 A h
    exact absurd h (by rw [fX3_workOut_l3]; exact fun h => nomatch h)
  | succ n ih =>
    intro x4 A h
    rw [fX3_workOut_l3] at h
    refine ru_iload ddX3_workOut_3 rfl ?_
    refine ru_bipush (6 : Int32) ddX3_workOut_5 rfl ?_
    refine ru_icmp_ge 44 ddX3_workOut_7 (by decide) (fun hc => ?_) (fun hc => ?_)
    · rw [if_pos hc] at h
      refine ru_wk (L2 := [none, none, none, none, none]) trivial ?_
      exact hk44 A h
    · rw [if_neg hc] at h
      refine ru_aload_n ddX3_workOut_10 rfl ?_
      refine ru_getR (r := 64) ddX3_workOut_11 flX3_9 rfl rfl ?_
      refine ru_iload ddX3_workOut_14 rfl ?_
      refine ru_iload_n ddX3_workOut_16 rfl ?_
      refine ru_iload ddX3_workOut_17 rfl ?_
      obtain ⟨v1, hv, h⟩ := ruB_inv h
      refine ru_callNi (as := [.int x3, .int x4]) (st := [.int x4, rurf E 64]) ddX3_workOut_19 cnX3_95 (wX10_has 1 (Nat.le_refl _) x3 x4 A hv) rfl (Nat.le_trans (m := 6) (by decide) hd) (Nat.le_of_ble_eq_true rfl) ?_
      clear hv
      obtain ⟨v2, A3, hq, h⟩ := ruB2_inv h
      have J : ruW E mmX3_workOut d Q 37 [some (rurf E 63), some (.int x1), some (.int x2), some (.int x3), some (.int x4)] [.int v2, .int x4, rurf E 64] A3 := by
          obtain ⟨A6, hv, h⟩ := ruB_inv h
          refine ru_iast ddX3_workOut_37 rfl hv ?_
          clear hv
          refine ru_iinc (x4 + (1 : Int32)) ddX3_workOut_38 (by decide) rfl rfl rfl rfl ?_
          refine ru_goto 3 ddX3_workOut_41 (by decide) ?_
          exact ih (x4 + (1 : Int32)) A6 h
      replace h := hq
      clear hq
      refine ru_if_eq 36 ddX3_workOut_22 (by decide) (fun hc => ?_) (fun hc => ?_)
      · rw [if_pos hc] at h
        refine ru_iconst (0 : Int32) ddX3_workOut_36 rfl ?_
        obtain ⟨rfl, rfl⟩ := ruS2 h
        exact J
      · rw [if_neg hc] at h
        refine ru_aload_n ddX3_workOut_25 rfl ?_
        refine ru_iload_n ddX3_workOut_26 rfl ?_
        refine ru_iload ddX3_workOut_27 rfl ?_
        refine ru_iload_n ddX3_workOut_29 rfl ?_
        obtain ⟨v4, A5, hv, h⟩ := ruB2_inv h
        refine ru_callVi (as := [.int x1, .int x4, .int x2]) (st := [.int x4, rurf E 64]) ddX3_workOut_30 cvX3_92 rfl (wX3_of 5 (Nat.le_refl _) x1 x4 x2 A hv) rfl (Nat.le_trans (m := 6) (by decide) hd) (Nat.le_of_ble_eq_true rfl) ?_
        clear hv
        refine ru_goto 37 ddX3_workOut_33 (by decide) ?_
        obtain ⟨rfl, rfl⟩ := ruS2 h
        exact J
theorem wX3_workOut {E : ruE} (d : Nat) (hd : 6 ≤ d) (x1 : Int32) (x2 : Int32) (x3 : Int32) (A : ruA) {B : ruA} (h : fX3_workOut x1 x2 x3 A = some B) : ruC E mmX3_workOut d [rurf E 63, .int x1, .int x2, .int x3] A (ruPv B) := by
  refine ruC.of (L := [some (rurf E 63), some (.int x1), some (.int x2), some (.int x3), none]) (by decide) rfl (Nat.le_of_ble_eq_true rfl) rfl ?_
  unfold fX3_workOut at h
  refine ru_iconst (0 : Int32) ddX3_workOut_0 rfl ?_
  refine ru_istore ddX3_workOut_1 (by decide) rfl rfl ?_
  exact wX3_workOut_l3 hd x1 x2 x3 (fun A7 h => by
        exact ru_vretW ddX3_workOut_44 rfl h) ruF (0 : Int32) A h
theorem wX3_roomsFrom_l5 {E : ruE} {d : Nat} (hd : 2 ≤ d) {β : Type} {Q : Option Value → ruA → Prop} {res : β} (x1 : Int32) (x2 : Int32) (A : ruA) {k45 : Int32 → Option (β)} (hk45 : ∀ (x3 : Int32), k45 x3 = some res → ruW E mmX3_roomsFrom d Q 45 [none, none, none, some (.int x3), none] [] A) : ∀ (n : Nat) (x3 : Int32) (x4 : Int32), fX3_roomsFrom_l5 x1 x2 A k45 n x3 x4 = some res → ruW E mmX3_roomsFrom d Q 5 [some (rurf E 63), some (.int x1), some (.int x2), some (.int x3), some (.int x4)] [] A := by
  intro n
  induction n with
  | zero =>
    intro x3 x4 h
    exact absurd h (by rw [fX3_roomsFrom_l5]; exact fun h => nomatch h)
  | succ n ih =>
    intro x3 x4 h
    rw [fX3_roomsFrom_l5] at h
    refine ru_iload ddX3_roomsFrom_5 rfl ?_
    refine ru_bipush (6 : Int32) ddX3_roomsFrom_7 rfl ?_
    refine ru_icmp_ge 45 ddX3_roomsFrom_9 (by decide) (fun hc => ?_) (fun hc => ?_)
    · rw [if_pos hc] at h
      refine ru_wk (L2 := [none, none, none, some (.int x3), none]) ⟨rfl, trivial⟩ ?_
      exact hk45 x3 h
    · rw [if_neg hc] at h
      refine ru_iload_n ddX3_roomsFrom_12 rfl ?_
      refine ru_iload ddX3_roomsFrom_13 rfl ?_
      obtain ⟨v1, hv, h⟩ := ruB_inv h
      refine ru_callNi (as := [.int x1, .int x4]) (st := []) ddX3_roomsFrom_15 cnX3_95 (wX10_has 1 (Nat.le_refl _) x1 x4 A hv) rfl (Nat.le_trans (m := 2) (by decide) hd) (Nat.le_of_ble_eq_true rfl) ?_
      clear hv
      obtain ⟨v2, hq, h⟩ := ruB_inv h
      have J : ruW E mmX3_roomsFrom d Q 39 [some (rurf E 63), some (.int x1), some (.int x2), some (.int v2), some (.int x4)] [] A := by
          refine ru_iinc (x4 + (1 : Int32)) ddX3_roomsFrom_39 (by decide) rfl rfl rfl rfl ?_
          refine ru_goto 5 ddX3_roomsFrom_42 (by decide) ?_
          exact ih v2 (x4 + (1 : Int32)) h
      replace h := hq
      clear hq
      refine ru_if_eq 39 ddX3_roomsFrom_18 (by decide) (fun hc => ?_) (fun hc => ?_)
      · rw [if_pos hc] at h
        refine ru_wk (L2 := [some (rurf E 63), some (.int x1), some (.int x2), some (.int x3), some (.int x4)]) ⟨rfl, rfl, rfl, rfl, rfl, trivial⟩ ?_
        obtain rfl := ruS1 h
        exact J
      · rw [if_neg hc] at h
        refine ru_aload_n ddX3_roomsFrom_21 rfl ?_
        refine ru_getR (r := 64) ddX3_roomsFrom_22 flX3_9 rfl rfl ?_
        refine ru_iload ddX3_roomsFrom_25 rfl ?_
        obtain ⟨v3, hv, h⟩ := ruB_inv h
        refine ru_iald ddX3_roomsFrom_27 rfl hv ?_
        clear hv
        refine ru_iload_n ddX3_roomsFrom_28 rfl ?_
        refine ru_icmp_lt 39 ddX3_roomsFrom_29 (by decide) (fun hc => ?_) (fun hc => ?_)
        · rw [if_pos hc] at h
          refine ru_wk (L2 := [some (rurf E 63), some (.int x1), some (.int x2), some (.int x3), some (.int x4)]) ⟨rfl, rfl, rfl, rfl, rfl, trivial⟩ ?_
          obtain rfl := ruS1 h
          exact J
        · rw [if_neg hc] at h
          refine ru_iload_n ddX3_roomsFrom_32 rfl ?_
          refine ru_iconst (1 : Int32) ddX3_roomsFrom_33 rfl ?_
          refine ru_iload ddX3_roomsFrom_34 rfl ?_
          refine ru_ishl ddX3_roomsFrom_36 ?_
          refine ru_ior ddX3_roomsFrom_37 ?_
          refine ru_istore_n ddX3_roomsFrom_38 (by decide) rfl rfl ?_
          refine ru_wk (L2 := [some (rurf E 63), some (.int x1), some (.int x2), some (.int (x3 ||| ((1 : Int32) <<< (x4 &&& 31)))), some (.int x4)]) ⟨rfl, rfl, rfl, rfl, rfl, trivial⟩ ?_
          obtain rfl := ruS1 h
          exact J
theorem wX3_roomsFrom {E : ruE} (d : Nat) (hd : 2 ≤ d) (x1 : Int32) (x2 : Int32) (A : ruA) {r : Int32} (h : fX3_roomsFrom x1 x2 A = some r) : ruC E mmX3_roomsFrom d [rurf E 63, .int x1, .int x2] A (ruPr r A) := by
  refine ruC.of (L := [some (rurf E 63), some (.int x1), some (.int x2), none, none]) (by decide) rfl (Nat.le_of_ble_eq_true rfl) rfl ?_
  unfold fX3_roomsFrom at h
  refine ru_iconst (0 : Int32) ddX3_roomsFrom_0 rfl ?_
  refine ru_istore_n ddX3_roomsFrom_1 (by decide) rfl rfl ?_
  refine ru_iconst (0 : Int32) ddX3_roomsFrom_2 rfl ?_
  refine ru_istore ddX3_roomsFrom_3 (by decide) rfl rfl ?_
  exact wX3_roomsFrom_l5 hd x1 x2 A (fun v4 h => by
        refine ru_iload_n ddX3_roomsFrom_45 rfl ?_
        exact ru_iretP ddX3_roomsFrom_46 rfl h) ruF (0 : Int32) (0 : Int32) h
theorem wX10_odd {E : ruE} (d : Nat) (hd : 7 ≤ d) (x1 : Int32) (x2 : Int32) (x3 : Int32) (x4 : Int32) (A : ruA) {r : Int32} {B : ruA} (h : fX10_odd x1 x2 x3 x4 A = some (r, B)) : ruC E mmX10_odd d [rurf E 0, .int x1, .int x2, .int x3, .int x4] A (ruPr r B) := by
  refine ruC.of (L := [some (rurf E 0), some (.int x1), some (.int x2), some (.int x3), some (.int x4), none]) (by decide) rfl (Nat.le_of_ble_eq_true rfl) rfl ?_
  unfold fX10_odd at h
  refine ru_aload_n ddX10_odd_0 rfl ?_
  refine ru_iload_n ddX10_odd_1 rfl ?_
  obtain ⟨v1, hv, h⟩ := ruB_inv h
  refine ru_callVi (as := [.int x1]) (st := []) ddX10_odd_2 cvX10_98 rfl (wX10_isRoom 2 (Nat.le_refl _) x1 A hv) rfl (Nat.le_trans (m := 7) (by decide) hd) (Nat.le_of_ble_eq_true rfl) ?_
  clear hv
  refine ru_if_eq 35 ddX10_odd_5 (by decide) (fun hc => ?_) (fun hc => ?_)
  · rw [if_pos hc] at h
    refine ru_aload_n ddX10_odd_35 rfl ?_
    refine ru_ldc (v := (-1000001 : Int32)) ddX10_odd_36 ckX10_81 ?_
    obtain ⟨v2, A3, hv, h⟩ := ruB2_inv h
    refine ru_callVi (as := [.int (-1000001 : Int32)]) (st := []) ddX10_odd_38 cvX10_82 rfl (wX10_finding 2 (Nat.le_refl _) (-1000001 : Int32) A hv) rfl (Nat.le_trans (m := 7) (by decide) hd) (Nat.le_of_ble_eq_true rfl) ?_
    clear hv
    exact ru_iretW ddX10_odd_41 rfl h
  · rw [if_neg hc] at h
    refine ru_iload_n ddX10_odd_8 rfl ?_
    obtain ⟨v4, hv, h⟩ := ruB_inv h
    refine ru_callSi (as := [.int x2]) (st := []) ddX10_odd_9 csX10_203 (wX10_isYear 2 (Nat.le_refl _) x2 A hv) rfl (Nat.le_trans (m := 7) (by decide) hd) (Nat.le_of_ble_eq_true rfl) ?_
    clear hv
    refine ru_if_eq 35 ddX10_odd_12 (by decide) (fun hc => ?_) (fun hc => ?_)
    · rw [if_pos hc] at h
      refine ru_aload_n ddX10_odd_35 rfl ?_
      refine ru_ldc (v := (-1000001 : Int32)) ddX10_odd_36 ckX10_81 ?_
      obtain ⟨v5, A6, hv, h⟩ := ruB2_inv h
      refine ru_callVi (as := [.int (-1000001 : Int32)]) (st := []) ddX10_odd_38 cvX10_82 rfl (wX10_finding 2 (Nat.le_refl _) (-1000001 : Int32) A hv) rfl (Nat.le_trans (m := 7) (by decide) hd) (Nat.le_of_ble_eq_true rfl) ?_
      clear hv
      exact ru_iretW ddX10_odd_41 rfl h
    · rw [if_neg hc] at h
      refine ru_iload_n ddX10_odd_15 rfl ?_
      refine ru_iconst (0 : Int32) ddX10_odd_16 rfl ?_
      refine ru_bipush (6 : Int32) ddX10_odd_17 rfl ?_
      obtain ⟨v7, hv, h⟩ := ruB_inv h
      refine ru_callSi (as := [.int x3, .int (0 : Int32), .int (6 : Int32)]) (st := []) ddX10_odd_19 csX10_77 (wX10_isWithin 1 (Nat.le_refl _) x3 (0 : Int32) (6 : Int32) A hv) rfl (Nat.le_trans (m := 7) (by decide) hd) (Nat.le_of_ble_eq_true rfl) ?_
      clear hv
      refine ru_if_eq 35 ddX10_odd_22 (by decide) (fun hc => ?_) (fun hc => ?_)
      · rw [if_pos hc] at h
        refine ru_aload_n ddX10_odd_35 rfl ?_
        refine ru_ldc (v := (-1000001 : Int32)) ddX10_odd_36 ckX10_81 ?_
        obtain ⟨v8, A9, hv, h⟩ := ruB2_inv h
        refine ru_callVi (as := [.int (-1000001 : Int32)]) (st := []) ddX10_odd_38 cvX10_82 rfl (wX10_finding 2 (Nat.le_refl _) (-1000001 : Int32) A hv) rfl (Nat.le_trans (m := 7) (by decide) hd) (Nat.le_of_ble_eq_true rfl) ?_
        clear hv
        exact ru_iretW ddX10_odd_41 rfl h
      · rw [if_neg hc] at h
        refine ru_iload ddX10_odd_25 rfl ?_
        refine ru_iconst (0 : Int32) ddX10_odd_27 rfl ?_
        refine ru_iconst (1 : Int32) ddX10_odd_28 rfl ?_
        obtain ⟨v10, hv, h⟩ := ruB_inv h
        refine ru_callSi (as := [.int x4, .int (0 : Int32), .int (1 : Int32)]) (st := []) ddX10_odd_29 csX10_77 (wX10_isWithin 1 (Nat.le_refl _) x4 (0 : Int32) (1 : Int32) A hv) rfl (Nat.le_trans (m := 7) (by decide) hd) (Nat.le_of_ble_eq_true rfl) ?_
        clear hv
        refine ru_if_ne 42 ddX10_odd_32 (by decide) (fun hc => ?_) (fun hc => ?_)
        · rw [if_neg hc] at h
          refine ru_aload_n ddX10_odd_42 rfl ?_
          refine ru_getR (r := 63) ddX10_odd_43 flX10_38 rfl rfl ?_
          refine ru_iload_n ddX10_odd_46 rfl ?_
          refine ru_iload_n ddX10_odd_47 rfl ?_
          obtain ⟨v11, hv, h⟩ := ruB_inv h
          refine ru_callVi (as := [.int x1, .int x2]) (st := []) ddX10_odd_48 cvX10_238 rfl (wX3_hasSheets 2 (Nat.le_refl _) x1 x2 A hv) rfl (Nat.le_trans (m := 7) (by decide) hd) (Nat.le_of_ble_eq_true rfl) ?_
          clear hv
          refine ru_if_ne 61 ddX10_odd_51 (by decide) (fun hc => ?_) (fun hc => ?_)
          · rw [if_neg hc] at h
            refine ru_aload_n ddX10_odd_61 rfl ?_
            refine ru_getR (r := 63) ddX10_odd_62 flX10_38 rfl rfl ?_
            refine ru_iload_n ddX10_odd_65 rfl ?_
            obtain ⟨v12, hv, h⟩ := ruB_inv h
            refine ru_callVi (as := [.int x2]) (st := []) ddX10_odd_66 cvX10_263 rfl (wX3_roomsWithSheets 3 (Nat.le_refl _) x2 A hv) rfl (Nat.le_trans (m := 7) (by decide) hd) (Nat.le_of_ble_eq_true rfl) ?_
            clear hv
            refine ru_istore ddX10_odd_69 (by decide) rfl rfl ?_
            refine ru_iload ddX10_odd_71 rfl ?_
            refine ru_iconst (1 : Int32) ddX10_odd_73 rfl ?_
            refine ru_icmp_ne 83 ddX10_odd_74 (by decide) (fun hc => ?_) (fun hc => ?_)
            · rw [if_neg hc] at h
              refine ru_aload_n ddX10_odd_83 rfl ?_
              refine ru_getR (r := 63) ddX10_odd_84 flX10_38 rfl rfl ?_
              refine ru_iload_n ddX10_odd_87 rfl ?_
              refine ru_iload_n ddX10_odd_88 rfl ?_
              refine ru_iload ddX10_odd_89 rfl ?_
              obtain ⟨A13, hv, h⟩ := ruB_inv h
              refine ru_callVv (as := [.int x3, .int x2, .int v12]) (st := []) ddX10_odd_91 cvX10_271 rfl (wX3_workOut 6 (Nat.le_refl _) x3 x2 v12 A hv) rfl (Nat.le_trans (m := 7) (by decide) hd) (Nat.le_of_ble_eq_true rfl) ?_
              clear hv
              refine ru_aload_n ddX10_odd_94 rfl ?_
              refine ru_getR (r := 63) ddX10_odd_95 flX10_38 rfl rfl ?_
              refine ru_iload ddX10_odd_98 rfl ?_
              refine ru_aload_n ddX10_odd_100 rfl ?_
              refine ru_getR (r := 63) ddX10_odd_101 flX10_38 rfl rfl ?_
              refine ru_getR (r := 64) ddX10_odd_104 flX10_274 rfl rfl ?_
              refine ru_iload_n ddX10_odd_107 rfl ?_
              obtain ⟨v14, hv, h⟩ := ruB_inv h
              refine ru_iald ddX10_odd_108 rfl hv ?_
              clear hv
              obtain ⟨v15, hv, h⟩ := ruB_inv h
              refine ru_callVi (as := [.int v12, .int v14]) (st := []) ddX10_odd_109 cvX10_277 rfl (wX3_roomsFrom 2 (Nat.le_refl _) v12 v14 A13 hv) rfl (Nat.le_trans (m := 7) (by decide) hd) (Nat.le_of_ble_eq_true rfl) ?_
              clear hv
              obtain ⟨v16, hv, h⟩ := ruB_inv h
              refine ru_callSi (as := [.int v15]) (st := []) ddX10_odd_112 csX10_266 (wJ6_bitCount_0f7a4 1 (Nat.le_refl _) v15 A13 hv) rfl (Nat.le_trans (m := 7) (by decide) hd) (Nat.le_of_ble_eq_true rfl) ?_
              clear hv
              exact ru_iretW ddX10_odd_115 rfl h
            · rw [if_pos hc] at h
              refine ru_iload ddX10_odd_77 rfl ?_
              obtain ⟨v17, hv, h⟩ := ruB_inv h
              refine ru_callSi (as := [.int v12]) (st := []) ddX10_odd_79 csX10_266 (wJ6_bitCount_0f7a4 1 (Nat.le_refl _) v12 A hv) rfl (Nat.le_trans (m := 7) (by decide) hd) (Nat.le_of_ble_eq_true rfl) ?_
              clear hv
              exact ru_iretW ddX10_odd_82 rfl h
          · rw [if_pos hc] at h
            refine ru_aload_n ddX10_odd_54 rfl ?_
            refine ru_ldc (v := (-1000004 : Int32)) ddX10_odd_55 ckX10_202 ?_
            obtain ⟨v18, A19, hv, h⟩ := ruB2_inv h
            refine ru_callVi (as := [.int (-1000004 : Int32)]) (st := []) ddX10_odd_57 cvX10_82 rfl (wX10_finding 2 (Nat.le_refl _) (-1000004 : Int32) A hv) rfl (Nat.le_trans (m := 7) (by decide) hd) (Nat.le_of_ble_eq_true rfl) ?_
            clear hv
            exact ru_iretW ddX10_odd_60 rfl h
        · rw [if_pos hc] at h
          refine ru_aload_n ddX10_odd_35 rfl ?_
          refine ru_ldc (v := (-1000001 : Int32)) ddX10_odd_36 ckX10_81 ?_
          obtain ⟨v20, A21, hv, h⟩ := ruB2_inv h
          refine ru_callVi (as := [.int (-1000001 : Int32)]) (st := []) ddX10_odd_38 cvX10_82 rfl (wX10_finding 2 (Nat.le_refl _) (-1000001 : Int32) A hv) rfl (Nat.le_trans (m := 7) (by decide) hd) (Nat.le_of_ble_eq_true rfl) ?_
          clear hv
          exact ru_iretW ddX10_odd_41 rfl h
theorem wX10_feed_l38 {E : ruE} {d : Nat} (hd : 3 ≤ d) {β : Type} {Q : Option Value → ruA → Prop} {res : β} (x1 : Int32) {k77 : ruA → Option (β)} (hk77 : ∀ (A : ruA), k77 A = some res → ruW E mmX10_feed d Q 77 [some (rurf E 0), none, none, none] [] A) : ∀ (n : Nat) (x3 : Int32) (A : ruA), fX10_feed_l38 x1 k77 n x3 A = some res → ruW E mmX10_feed d Q 38 [some (rurf E 0), some (.int x1), none, some (.int x3)] [] A := by
  intro n
  induction n with
  | zero =>
    intro x3 A h
    exact absurd h (by rw [fX10_feed_l38]; exact fun h => nomatch h)
  | succ n ih =>
    intro x3 A h
    rw [fX10_feed_l38] at h
    refine ru_iload_n ddX10_feed_38 rfl ?_
    refine ru_if_lt 77 ddX10_feed_39 (by decide) (fun hc => ?_) (fun hc => ?_)
    · rw [if_pos hc] at h
      refine ru_wk (L2 := [some (rurf E 0), none, none, none]) ⟨rfl, trivial⟩ ?_
      exact hk77 A h
    · rw [if_neg hc] at h
      refine ru_aload_n ddX10_feed_42 rfl ?_
      refine ru_getR (r := 72) ddX10_feed_43 flX10_53 rfl rfl ?_
      refine ru_aload_n ddX10_feed_46 rfl ?_
      refine ru_getI ddX10_feed_47 flX10_56 rfl ?_
      refine ru_iload_n ddX10_feed_50 rfl ?_
      refine ru_bipush (8 : Int32) ddX10_feed_51 rfl ?_
      refine ru_iload_n ddX10_feed_53 rfl ?_
      refine ru_imul ddX10_feed_54 ?_
      refine ru_iushr2 ddX10_feed_55 ?_
      refine ru_sipush (255 : Int32) ddX10_feed_56 rfl ?_
      refine ru_iand ddX10_feed_59 ?_
      obtain ⟨A2, hv, h⟩ := ruB_inv h
      refine ru_iast ddX10_feed_60 rfl hv ?_
      clear hv
      refine ru_aload_n ddX10_feed_61 rfl ?_
      refine ru_dup ddX10_feed_62 rfl ?_
      refine ru_getI ddX10_feed_63 flX10_56 rfl ?_
      refine ru_iconst (1 : Int32) ddX10_feed_66 rfl ?_
      refine ru_iadd ddX10_feed_67 ?_
      obtain ⟨A3, hv, h⟩ := ruB_inv h
      refine ru_putI2 ddX10_feed_68 flX10_56 fp10_9 rfl hv ?_
      clear hv
      refine ru_iinc (x3 + (-1 : Int32)) ddX10_feed_71 (by decide) rfl rfl rfl rfl ?_
      refine ru_goto 38 ddX10_feed_74 (by decide) ?_
      exact ih (x3 + (-1 : Int32)) A3 h
theorem wX10_feed {E : ruE} (d : Nat) (hd : 3 ≤ d) (x1 : Int32) (x2 : Int32) (A : ruA) {r : Int32} {B : ruA} (h : fX10_feed x1 x2 A = some (r, B)) : ruC E mmX10_feed d [rurf E 0, .int x1, .int x2] A (ruPr r B) := by
  refine ruC.of (L := [some (rurf E 0), some (.int x1), some (.int x2), none]) (by decide) rfl (Nat.le_of_ble_eq_true rfl) rfl ?_
  unfold fX10_feed at h
  refine ru_iload_n ddX10_feed_0 rfl ?_
  refine ru_iconst (1 : Int32) ddX10_feed_1 rfl ?_
  refine ru_iconst (4 : Int32) ddX10_feed_2 rfl ?_
  obtain ⟨v1, hv, h⟩ := ruB_inv h
  refine ru_callSi (as := [.int x2, .int (1 : Int32), .int (4 : Int32)]) (st := []) ddX10_feed_3 csX10_77 (wX10_isWithin 1 (Nat.le_refl _) x2 (1 : Int32) (4 : Int32) A hv) rfl (Nat.le_trans (m := 3) (by decide) hd) (Nat.le_of_ble_eq_true rfl) ?_
  clear hv
  refine ru_if_ne 16 ddX10_feed_6 (by decide) (fun hc => ?_) (fun hc => ?_)
  · rw [if_neg hc] at h
    refine ru_aload_n ddX10_feed_16 rfl ?_
    refine ru_getI ddX10_feed_17 flX10_56 rfl ?_
    refine ru_iload_n ddX10_feed_20 rfl ?_
    refine ru_iadd ddX10_feed_21 ?_
    refine ru_bipush (100 : Int32) ddX10_feed_22 rfl ?_
    refine ru_icmp_le 34 ddX10_feed_24 (by decide) (fun hc => ?_) (fun hc => ?_)
    · rw [if_pos hc] at h
      refine ru_iload_n ddX10_feed_34 rfl ?_
      refine ru_iconst (1 : Int32) ddX10_feed_35 rfl ?_
      refine ru_isub ddX10_feed_36 ?_
      refine ru_istore_n ddX10_feed_37 (by decide) rfl rfl ?_
      refine ru_wk (L2 := [some (rurf E 0), some (.int x1), none, some (.int (x2 - (1 : Int32)))]) ⟨rfl, rfl, rfl, trivial⟩ ?_
      exact wX10_feed_l38 hd x1 (fun A4 h => by
            refine ru_aload_n ddX10_feed_77 rfl ?_
            refine ru_getI ddX10_feed_78 flX10_56 rfl ?_
            exact ru_iretW ddX10_feed_81 rfl h) ruF (x2 - (1 : Int32)) A h
    · rw [if_neg hc] at h
      refine ru_aload_n ddX10_feed_27 rfl ?_
      refine ru_ldc (v := (-1000002 : Int32)) ddX10_feed_28 ckX10_97 ?_
      obtain ⟨v5, A6, hv, h⟩ := ruB2_inv h
      refine ru_callVi (as := [.int (-1000002 : Int32)]) (st := []) ddX10_feed_30 cvX10_82 rfl (wX10_finding 2 (Nat.le_refl _) (-1000002 : Int32) A hv) rfl (Nat.le_trans (m := 3) (by decide) hd) (Nat.le_of_ble_eq_true rfl) ?_
      clear hv
      exact ru_iretW ddX10_feed_33 rfl h
  · rw [if_pos hc] at h
    refine ru_aload_n ddX10_feed_9 rfl ?_
    refine ru_ldc (v := (-1000001 : Int32)) ddX10_feed_10 ckX10_81 ?_
    obtain ⟨v7, A8, hv, h⟩ := ruB2_inv h
    refine ru_callVi (as := [.int (-1000001 : Int32)]) (st := []) ddX10_feed_12 cvX10_82 rfl (wX10_finding 2 (Nat.le_refl _) (-1000001 : Int32) A hv) rfl (Nat.le_trans (m := 3) (by decide) hd) (Nat.le_of_ble_eq_true rfl) ?_
    clear hv
    exact ru_iretW ddX10_feed_15 rfl h
theorem wX10_wipe {E : ruE} (d : Nat) (hd : 1 ≤ d) (A : ruA) {r : Int32} {B : ruA} (h : fX10_wipe A = some (r, B)) : ruC E mmX10_wipe d [rurf E 0] A (ruPr r B) := by
  refine ruC.of (L := [some (rurf E 0), none]) (by decide) rfl (Nat.le_of_ble_eq_true rfl) rfl ?_
  unfold fX10_wipe at h
  refine ru_aload_n ddX10_wipe_0 rfl ?_
  refine ru_getI ddX10_wipe_1 flX10_56 rfl ?_
  refine ru_istore_n ddX10_wipe_4 (by decide) rfl rfl ?_
  refine ru_aload_n ddX10_wipe_5 rfl ?_
  refine ru_iconst (0 : Int32) ddX10_wipe_6 rfl ?_
  obtain ⟨A1, hv, h⟩ := ruB_inv h
  refine ru_putI2 ddX10_wipe_7 flX10_56 fp10_9 rfl hv ?_
  clear hv
  refine ru_iload_n ddX10_wipe_10 rfl ?_
  exact ru_iretW ddX10_wipe_11 rfl h
theorem wX4_isDigit {E : ruE} (d : Nat) (hd : 1 ≤ d) (x0 : Int32) (A : ruA) {r : Int32} (h : fX4_isDigit x0 = some r) : ruC E mmX4_isDigit d [.int x0] A (ruPr r A) := by
  refine ruC.of (L := [some (.int x0)]) (by decide) rfl (Nat.le_of_ble_eq_true rfl) rfl ?_
  unfold fX4_isDigit at h
  refine ru_iload_n ddX4_isDigit_0 rfl ?_
  refine ru_bipush (48 : Int32) ddX4_isDigit_1 rfl ?_
  refine ru_icmp_lt 16 ddX4_isDigit_3 (by decide) (fun hc => ?_) (fun hc => ?_)
  · rw [if_pos hc] at h
    refine ru_iconst (0 : Int32) ddX4_isDigit_16 rfl ?_
    exact ru_zretP ddX4_isDigit_17 rfl (Or.inl rfl) h
  · rw [if_neg hc] at h
    refine ru_iload_n ddX4_isDigit_6 rfl ?_
    refine ru_bipush (57 : Int32) ddX4_isDigit_7 rfl ?_
    refine ru_icmp_gt 16 ddX4_isDigit_9 (by decide) (fun hc => ?_) (fun hc => ?_)
    · rw [if_pos hc] at h
      refine ru_iconst (0 : Int32) ddX4_isDigit_16 rfl ?_
      exact ru_zretP ddX4_isDigit_17 rfl (Or.inl rfl) h
    · rw [if_neg hc] at h
      refine ru_iconst (1 : Int32) ddX4_isDigit_12 rfl ?_
      refine ru_goto 17 ddX4_isDigit_13 (by decide) ?_
      exact ru_zretP ddX4_isDigit_17 rfl (Or.inr rfl) h
theorem wX4_isLetter {E : ruE} (d : Nat) (hd : 1 ≤ d) (x0 : Int32) (A : ruA) {r : Int32} (h : fX4_isLetter x0 = some r) : ruC E mmX4_isLetter d [.int x0] A (ruPr r A) := by
  refine ruC.of (L := [some (.int x0)]) (by decide) rfl (Nat.le_of_ble_eq_true rfl) rfl ?_
  unfold fX4_isLetter at h
  refine ru_iload_n ddX4_isLetter_0 rfl ?_
  refine ru_bipush (97 : Int32) ddX4_isLetter_1 rfl ?_
  refine ru_icmp_lt 16 ddX4_isLetter_3 (by decide) (fun hc => ?_) (fun hc => ?_)
  · rw [if_pos hc] at h
    refine ru_iconst (0 : Int32) ddX4_isLetter_16 rfl ?_
    exact ru_zretP ddX4_isLetter_17 rfl (Or.inl rfl) h
  · rw [if_neg hc] at h
    refine ru_iload_n ddX4_isLetter_6 rfl ?_
    refine ru_bipush (122 : Int32) ddX4_isLetter_7 rfl ?_
    refine ru_icmp_gt 16 ddX4_isLetter_9 (by decide) (fun hc => ?_) (fun hc => ?_)
    · rw [if_pos hc] at h
      refine ru_iconst (0 : Int32) ddX4_isLetter_16 rfl ?_
      exact ru_zretP ddX4_isLetter_17 rfl (Or.inl rfl) h
    · rw [if_neg hc] at h
      refine ru_iconst (1 : Int32) ddX4_isLetter_12 rfl ?_
      refine ru_goto 17 ddX4_isLetter_13 (by decide) ?_
      exact ru_zretP ddX4_isLetter_17 rfl (Or.inr rfl) h
theorem wX4_stepWord_l2 {E : ruE} {d : Nat} (hd : 2 ≤ d) {β : Type} {Q : Option Value → ruA → Prop} {res : β} {k56 : Int32 → ruA → Option (β)} (hk56 : ∀ (x1 : Int32) (A : ruA), k56 x1 A = some res → ruW E mmX4_stepWord d Q 56 [some (rurf E 70), some (.int x1), none] [] A) : ∀ (n : Nat) (x1 : Int32) (A : ruA), fX4_stepWord_l2 k56 n x1 A = some res → ruW E mmX4_stepWord d Q 2 [some (rurf E 70), some (.int x1), none] [] A := by
  intro n
  induction n with
  | zero =>
    intro x1 A h
    exact absurd h (by rw [fX4_stepWord_l2]; exact fun h => nomatch h)
  | succ n ih =>
    intro x1 A h
    rw [fX4_stepWord_l2] at h
    refine ru_aload_n ddX4_stepWord_2 rfl ?_
    refine ru_getI ddX4_stepWord_3 flX4_32 rfl ?_
    refine ru_aload_n ddX4_stepWord_6 rfl ?_
    refine ru_getI ddX4_stepWord_7 flX4_29 rfl ?_
    refine ru_icmp_ge 56 ddX4_stepWord_10 (by decide) (fun hc => ?_) (fun hc => ?_)
    · rw [if_pos hc] at h
      exact hk56 x1 A h
    · rw [if_neg hc] at h
      refine ru_aload_n ddX4_stepWord_13 rfl ?_
      refine ru_getR ddX4_stepWord_14 flX4_15 rfl (show ruref A 70 0 = some A.2.2.1 from rfl) ?_
      refine ru_aload_n ddX4_stepWord_17 rfl ?_
      refine ru_getI ddX4_stepWord_18 flX4_32 rfl ?_
      obtain ⟨n2, hn2, h⟩ := ruB_inv h
      obtain ⟨v1, hv, h⟩ := ruB_inv h
      refine ru_iald ddX4_stepWord_21 (rudI_eq hn2) hv ?_
      clear hv
      obtain ⟨v3, hv, h⟩ := ruB_inv h
      refine ru_callSi (as := [.int v1]) (st := []) ddX4_stepWord_22 csX4_58 (wX4_isLetter 1 (Nat.le_refl _) v1 A hv) rfl (Nat.le_trans (m := 2) (by decide) hd) (Nat.le_of_ble_eq_true rfl) ?_
      clear hv
      refine ru_if_eq 56 ddX4_stepWord_25 (by decide) (fun hc => ?_) (fun hc => ?_)
      · rw [if_pos hc] at h
        exact hk56 x1 A h
      · rw [if_neg hc] at h
        refine ru_iload_n ddX4_stepWord_28 rfl ?_
        refine ru_bipush (8 : Int32) ddX4_stepWord_29 rfl ?_
        refine ru_ishl ddX4_stepWord_31 ?_
        refine ru_aload_n ddX4_stepWord_32 rfl ?_
        refine ru_getR ddX4_stepWord_33 flX4_15 rfl (show ruref A 70 0 = some A.2.2.1 from rfl) ?_
        refine ru_aload_n ddX4_stepWord_36 rfl ?_
        refine ru_getI ddX4_stepWord_37 flX4_32 rfl ?_
        obtain ⟨v4, hv, h⟩ := ruB_inv h
        refine ru_iald ddX4_stepWord_40 (rudI_eq hn2) hv ?_
        clear hv
        refine ru_ior ddX4_stepWord_41 ?_
        refine ru_istore_n ddX4_stepWord_42 (by decide) rfl rfl ?_
        refine ru_aload_n ddX4_stepWord_43 rfl ?_
        refine ru_dup ddX4_stepWord_44 rfl ?_
        refine ru_getI ddX4_stepWord_45 flX4_32 rfl ?_
        refine ru_iconst (1 : Int32) ddX4_stepWord_48 rfl ?_
        refine ru_iadd ddX4_stepWord_49 ?_
        obtain ⟨A5, hv, h⟩ := ruB_inv h
        refine ru_putI2 ddX4_stepWord_50 flX4_32 fp4_2 rfl hv ?_
        clear hv
        refine ru_goto 2 ddX4_stepWord_53 (by decide) ?_
        exact ih ((x1 <<< ((8 : Int32) &&& 31)) ||| v4) A5 h
theorem wX4_stepWord_l79 {E : ruE} {d : Nat} (hd : 2 ≤ d) {β : Type} {Q : Option Value → ruA → Prop} {res : β} (x1 : Int32) {k117 : ruA → Option (β)} (hk117 : ∀ (A : ruA), k117 A = some res → ruW E mmX4_stepWord d Q 117 [none, none, none] [] A) : ∀ (n : Nat) (x2 : Int32) (A : ruA), fX4_stepWord_l79 x1 k117 n x2 A = some res → ruW E mmX4_stepWord d Q 79 [some (rurf E 70), some (.int x1), some (.int x2)] [] A := by
  intro n
  induction n with
  | zero =>
    intro x2 A h
    exact absurd h (by rw [fX4_stepWord_l79]; exact fun h => nomatch h)
  | succ n ih =>
    intro x2 A h
    rw [fX4_stepWord_l79] at h
    refine ru_iload_n ddX4_stepWord_79 rfl ?_
    refine ru_bipush (6 : Int32) ddX4_stepWord_80 rfl ?_
    refine ru_icmp_ge 117 ddX4_stepWord_82 (by decide) (fun hc => ?_) (fun hc => ?_)
    · rw [if_pos hc] at h
      refine ru_wk (L2 := [none, none, none]) trivial ?_
      exact hk117 A h
    · rw [if_neg hc] at h
      refine ru_names ddX4_stepWord_85 nmX4_67 ?_
      refine ru_iload_n ddX4_stepWord_88 rfl ?_
      obtain ⟨v9, hv, h⟩ := ruB_inv h
      refine ru_nald ddX4_stepWord_89 hv ?_
      clear hv
      refine ru_iload_n ddX4_stepWord_90 rfl ?_
      obtain ⟨A10, hq, h⟩ := ruB_inv h
      have J : ruW E mmX4_stepWord d Q 111 [some (rurf E 70), some (.int x1), some (.int x2)] [] A10 := by
          refine ru_iinc (x2 + (1 : Int32)) ddX4_stepWord_111 (by decide) rfl rfl rfl rfl ?_
          refine ru_goto 79 ddX4_stepWord_114 (by decide) ?_
          exact ih (x2 + (1 : Int32)) A10 h
      replace h := hq
      clear hq
      refine ru_icmp_ne 111 ddX4_stepWord_91 (by decide) (fun hc => ?_) (fun hc => ?_)
      · rw [if_neg hc] at h
        obtain rfl := ruS1 h
        exact J
      · rw [if_pos hc] at h
        refine ru_aload_n ddX4_stepWord_94 rfl ?_
        refine ru_sipush (256 : Int32) ddX4_stepWord_95 rfl ?_
        obtain ⟨A11, hv, h⟩ := ruB_inv h
        refine ru_putI2 ddX4_stepWord_98 flX4_42 fp4_4 rfl hv ?_
        clear hv
        refine ru_aload_n ddX4_stepWord_101 rfl ?_
        refine ru_aload_n ddX4_stepWord_102 rfl ?_
        refine ru_getR ddX4_stepWord_103 flX4_18 rfl (show ruref A11 70 7 = some A11.2.2.2 from rfl) ?_
        refine ru_iload_n ddX4_stepWord_106 rfl ?_
        obtain ⟨n13, hn13, h⟩ := ruB_inv h
        obtain ⟨v12, hv, h⟩ := ruB_inv h
        refine ru_iald ddX4_stepWord_107 (rudI_eq hn13) hv ?_
        clear hv
        obtain ⟨A14, hv, h⟩ := ruB_inv h
        refine ru_putI2 ddX4_stepWord_108 flX4_64 fp4_5 rfl hv ?_
        clear hv
        obtain rfl := ruS1 h
        exact J
theorem wX4_stepWord {E : ruE} (d : Nat) (hd : 2 ≤ d) (A : ruA) {B : ruA} (h : fX4_stepWord A = some B) : ruC E mmX4_stepWord d [rurf E 70] A (ruPv B) := by
  refine ruC.of (L := [some (rurf E 70), none, none]) (by decide) rfl (Nat.le_of_ble_eq_true rfl) rfl ?_
  unfold fX4_stepWord at h
  refine ru_iconst (0 : Int32) ddX4_stepWord_0 rfl ?_
  refine ru_istore_n ddX4_stepWord_1 (by decide) rfl rfl ?_
  exact wX4_stepWord_l2 hd (fun v6 A7 h => by
        refine ru_aload_n ddX4_stepWord_56 rfl ?_
        refine ru_sipush (258 : Int32) ddX4_stepWord_57 rfl ?_
        obtain ⟨A8, hv, h⟩ := ruB_inv h
        refine ru_putI2 ddX4_stepWord_60 flX4_42 fp4_4 rfl hv ?_
        clear hv
        refine ru_aload_n ddX4_stepWord_63 rfl ?_
        refine ru_getI ddX4_stepWord_64 flX4_32 rfl ?_
        refine ru_aload_n ddX4_stepWord_67 rfl ?_
        refine ru_getI ddX4_stepWord_68 flX4_48 rfl ?_
        refine ru_isub ddX4_stepWord_71 ?_
        refine ru_iconst (4 : Int32) ddX4_stepWord_72 rfl ?_
        refine ru_icmp_le 77 ddX4_stepWord_73 (by decide) (fun hc => ?_) (fun hc => ?_)
        · rw [if_pos hc] at h
          refine ru_iconst (0 : Int32) ddX4_stepWord_77 rfl ?_
          refine ru_istore_n ddX4_stepWord_78 (by decide) rfl rfl ?_
          exact wX4_stepWord_l79 hd v6 (fun A15 h => by
                exact ru_vretW ddX4_stepWord_117 rfl h) ruF (0 : Int32) A8 h
        · rw [if_neg hc] at h
          exact ru_vretW ddX4_stepWord_76 rfl h) ruF (0 : Int32) A h
theorem wX4_stepNumber_l5 {E : ruE} {d : Nat} (hd : 2 ≤ d) {β : Type} {Q : Option Value → ruA → Prop} {res : β} {k68 : ruA → Option (β)} (hk68 : ∀ (A : ruA), k68 A = some res → ruW E mmX4_stepNumber d Q 68 [some (rurf E 70)] [] A) : ∀ (n : Nat) (A : ruA), fX4_stepNumber_l5 k68 n A = some res → ruW E mmX4_stepNumber d Q 5 [some (rurf E 70)] [] A := by
  intro n
  induction n with
  | zero =>
    intro A h
    exact absurd h (by rw [fX4_stepNumber_l5]; exact fun h => nomatch h)
  | succ n ih =>
    intro A h
    rw [fX4_stepNumber_l5] at h
    refine ru_aload_n ddX4_stepNumber_5 rfl ?_
    refine ru_getI ddX4_stepNumber_6 flX4_32 rfl ?_
    refine ru_aload_n ddX4_stepNumber_9 rfl ?_
    refine ru_getI ddX4_stepNumber_10 flX4_29 rfl ?_
    refine ru_icmp_ge 68 ddX4_stepNumber_13 (by decide) (fun hc => ?_) (fun hc => ?_)
    · rw [if_pos hc] at h
      exact hk68 A h
    · rw [if_neg hc] at h
      refine ru_aload_n ddX4_stepNumber_16 rfl ?_
      refine ru_getR ddX4_stepNumber_17 flX4_15 rfl (show ruref A 70 0 = some A.2.2.1 from rfl) ?_
      refine ru_aload_n ddX4_stepNumber_20 rfl ?_
      refine ru_getI ddX4_stepNumber_21 flX4_32 rfl ?_
      obtain ⟨n3, hn3, h⟩ := ruB_inv h
      obtain ⟨v2, hv, h⟩ := ruB_inv h
      refine ru_iald ddX4_stepNumber_24 (rudI_eq hn3) hv ?_
      clear hv
      obtain ⟨v4, hv, h⟩ := ruB_inv h
      refine ru_callSi (as := [.int v2]) (st := []) ddX4_stepNumber_25 csX4_51 (wX4_isDigit 1 (Nat.le_refl _) v2 A hv) rfl (Nat.le_trans (m := 2) (by decide) hd) (Nat.le_of_ble_eq_true rfl) ?_
      clear hv
      refine ru_if_eq 68 ddX4_stepNumber_28 (by decide) (fun hc => ?_) (fun hc => ?_)
      · rw [if_pos hc] at h
        exact hk68 A h
      · rw [if_neg hc] at h
        refine ru_aload_n ddX4_stepNumber_31 rfl ?_
        refine ru_aload_n ddX4_stepNumber_32 rfl ?_
        refine ru_getI ddX4_stepNumber_33 flX4_64 rfl ?_
        refine ru_bipush (10 : Int32) ddX4_stepNumber_36 rfl ?_
        refine ru_imul ddX4_stepNumber_38 ?_
        refine ru_aload_n ddX4_stepNumber_39 rfl ?_
        refine ru_getR ddX4_stepNumber_40 flX4_15 rfl (show ruref A 70 0 = some A.2.2.1 from rfl) ?_
        refine ru_aload_n ddX4_stepNumber_43 rfl ?_
        refine ru_getI ddX4_stepNumber_44 flX4_32 rfl ?_
        obtain ⟨v5, hv, h⟩ := ruB_inv h
        refine ru_iald ddX4_stepNumber_47 (rudI_eq hn3) hv ?_
        clear hv
        refine ru_bipush (48 : Int32) ddX4_stepNumber_48 rfl ?_
        refine ru_isub ddX4_stepNumber_50 ?_
        refine ru_iadd ddX4_stepNumber_51 ?_
        obtain ⟨A6, hv, h⟩ := ruB_inv h
        refine ru_putI2 ddX4_stepNumber_52 flX4_64 fp4_5 rfl hv ?_
        clear hv
        refine ru_aload_n ddX4_stepNumber_55 rfl ?_
        refine ru_dup ddX4_stepNumber_56 rfl ?_
        refine ru_getI ddX4_stepNumber_57 flX4_32 rfl ?_
        refine ru_iconst (1 : Int32) ddX4_stepNumber_60 rfl ?_
        refine ru_iadd ddX4_stepNumber_61 ?_
        obtain ⟨A7, hv, h⟩ := ruB_inv h
        refine ru_putI2 ddX4_stepNumber_62 flX4_32 fp4_2 rfl hv ?_
        clear hv
        refine ru_goto 5 ddX4_stepNumber_65 (by decide) ?_
        exact ih A7 h
theorem wX4_stepNumber {E : ruE} (d : Nat) (hd : 2 ≤ d) (A : ruA) {B : ruA} (h : fX4_stepNumber A = some B) : ruC E mmX4_stepNumber d [rurf E 70] A (ruPv B) := by
  refine ruC.of (L := [some (rurf E 70)]) (by decide) rfl (Nat.le_of_ble_eq_true rfl) rfl ?_
  unfold fX4_stepNumber at h
  refine ru_aload_n ddX4_stepNumber_0 rfl ?_
  refine ru_iconst (0 : Int32) ddX4_stepNumber_1 rfl ?_
  obtain ⟨A1, hv, h⟩ := ruB_inv h
  refine ru_putI2 ddX4_stepNumber_2 flX4_64 fp4_5 rfl hv ?_
  clear hv
  exact wX4_stepNumber_l5 hd (fun A8 h => by
        refine ru_aload_n ddX4_stepNumber_68 rfl ?_
        refine ru_aload_n ddX4_stepNumber_69 rfl ?_
        refine ru_getI ddX4_stepNumber_70 flX4_32 rfl ?_
        refine ru_aload_n ddX4_stepNumber_73 rfl ?_
        refine ru_getI ddX4_stepNumber_74 flX4_48 rfl ?_
        refine ru_isub ddX4_stepNumber_77 ?_
        refine ru_iconst (4 : Int32) ddX4_stepNumber_78 rfl ?_
        obtain ⟨v9, hq, h⟩ := ruB_inv h
        have J : ruW E mmX4_stepNumber d (ruPv B) 91 [none] [.int v9, rurf E 70] A8 := by
            obtain ⟨A10, hv, h⟩ := ruB_inv h
            refine ru_putI2 ddX4_stepNumber_91 flX4_42 fp4_4 rfl hv ?_
            clear hv
            exact ru_vretW ddX4_stepNumber_94 rfl h
        replace h := hq
        clear hq
        refine ru_icmp_gt 88 ddX4_stepNumber_79 (by decide) (fun hc => ?_) (fun hc => ?_)
        · rw [if_pos hc] at h
          refine ru_sipush (258 : Int32) ddX4_stepNumber_88 rfl ?_
          refine ru_wk (L2 := [none]) trivial ?_
          obtain rfl := ruS1 h
          exact J
        · rw [if_neg hc] at h
          refine ru_sipush (256 : Int32) ddX4_stepNumber_82 rfl ?_
          refine ru_goto 91 ddX4_stepNumber_85 (by decide) ?_
          refine ru_wk (L2 := [none]) trivial ?_
          obtain rfl := ruS1 h
          exact J) ruF A1 h
theorem wX4_step_l9 {E : ruE} {d : Nat} (hd : 3 ≤ d) {β : Type} {Q : Option Value → ruA → Prop} {res : β} {k47 : ruA → Option (β)} (hk47 : ∀ (A : ruA), k47 A = some res → ruW E mmX4_step d Q 47 [some (rurf E 70)] [] A) : ∀ (n : Nat) (A : ruA), fX4_step_l9 k47 n A = some res → ruW E mmX4_step d Q 9 [some (rurf E 70)] [] A := by
  intro n
  induction n with
  | zero =>
    intro A h
    exact absurd h (by rw [fX4_step_l9]; exact fun h => nomatch h)
  | succ n ih =>
    intro A h
    rw [fX4_step_l9] at h
    refine ru_aload_n ddX4_step_9 rfl ?_
    refine ru_getI ddX4_step_10 flX4_32 rfl ?_
    refine ru_aload_n ddX4_step_13 rfl ?_
    refine ru_getI ddX4_step_14 flX4_29 rfl ?_
    refine ru_icmp_ge 47 ddX4_step_17 (by decide) (fun hc => ?_) (fun hc => ?_)
    · rw [if_pos hc] at h
      exact hk47 A h
    · rw [if_neg hc] at h
      refine ru_aload_n ddX4_step_20 rfl ?_
      refine ru_getR ddX4_step_21 flX4_15 rfl (show ruref A 70 0 = some A.2.2.1 from rfl) ?_
      refine ru_aload_n ddX4_step_24 rfl ?_
      refine ru_getI ddX4_step_25 flX4_32 rfl ?_
      obtain ⟨n2, hn2, h⟩ := ruB_inv h
      obtain ⟨v1, hv, h⟩ := ruB_inv h
      refine ru_iald ddX4_step_28 (rudI_eq hn2) hv ?_
      clear hv
      refine ru_bipush (32 : Int32) ddX4_step_29 rfl ?_
      refine ru_icmp_ne 47 ddX4_step_31 (by decide) (fun hc => ?_) (fun hc => ?_)
      · rw [if_neg hc] at h
        exact hk47 A h
      · rw [if_pos hc] at h
        refine ru_aload_n ddX4_step_34 rfl ?_
        refine ru_dup ddX4_step_35 rfl ?_
        refine ru_getI ddX4_step_36 flX4_32 rfl ?_
        refine ru_iconst (1 : Int32) ddX4_step_39 rfl ?_
        refine ru_iadd ddX4_step_40 ?_
        obtain ⟨A3, hv, h⟩ := ruB_inv h
        refine ru_putI2 ddX4_step_41 flX4_32 fp4_2 rfl hv ?_
        clear hv
        refine ru_goto 9 ddX4_step_44 (by decide) ?_
        exact ih A3 h
theorem wX4_step {E : ruE} (d : Nat) (hd : 3 ≤ d) (A : ruA) {B : ruA} (h : fX4_step A = some B) : ruC E mmX4_step d [rurf E 70] A (ruPv B) := by
  refine ruC.of (L := [some (rurf E 70)]) (by decide) rfl (Nat.le_of_ble_eq_true rfl) rfl ?_
  unfold fX4_step at h
  refine ru_aload_n ddX4_step_0 rfl ?_
  refine ru_getI ddX4_step_1 flX4_25 rfl ?_
  refine ru_iconst (-1 : Int32) ddX4_step_4 rfl ?_
  refine ru_icmp_eq 9 ddX4_step_5 (by decide) (fun hc => ?_) (fun hc => ?_)
  · rw [if_pos hc] at h
    exact wX4_step_l9 hd (fun A4 h => by
          refine ru_aload_n ddX4_step_47 rfl ?_
          refine ru_aload_n ddX4_step_48 rfl ?_
          refine ru_getI ddX4_step_49 flX4_32 rfl ?_
          obtain ⟨A5, hv, h⟩ := ruB_inv h
          refine ru_putI2 ddX4_step_52 flX4_48 fp4_3 rfl hv ?_
          clear hv
          refine ru_aload_n ddX4_step_55 rfl ?_
          refine ru_getI ddX4_step_56 flX4_32 rfl ?_
          refine ru_aload_n ddX4_step_59 rfl ?_
          refine ru_getI ddX4_step_60 flX4_29 rfl ?_
          refine ru_icmp_lt 76 ddX4_step_63 (by decide) (fun hc => ?_) (fun hc => ?_)
          · rw [if_pos hc] at h
            refine ru_aload_n ddX4_step_76 rfl ?_
            refine ru_getR ddX4_step_77 flX4_15 rfl (show ruref A5 70 0 = some A5.2.2.1 from rfl) ?_
            refine ru_aload_n ddX4_step_80 rfl ?_
            refine ru_getI ddX4_step_81 flX4_32 rfl ?_
            obtain ⟨n7, hn7, h⟩ := ruB_inv h
            obtain ⟨v6, hv, h⟩ := ruB_inv h
            refine ru_iald ddX4_step_84 (rudI_eq hn7) hv ?_
            clear hv
            obtain ⟨v8, hv, h⟩ := ruB_inv h
            refine ru_callSi (as := [.int v6]) (st := []) ddX4_step_85 csX4_51 (wX4_isDigit 1 (Nat.le_refl _) v6 A5 hv) rfl (Nat.le_trans (m := 3) (by decide) hd) (Nat.le_of_ble_eq_true rfl) ?_
            clear hv
            refine ru_if_eq 98 ddX4_step_88 (by decide) (fun hc => ?_) (fun hc => ?_)
            · rw [if_pos hc] at h
              refine ru_aload_n ddX4_step_98 rfl ?_
              refine ru_getR ddX4_step_99 flX4_15 rfl (show ruref A5 70 0 = some A5.2.2.1 from rfl) ?_
              refine ru_aload_n ddX4_step_102 rfl ?_
              refine ru_getI ddX4_step_103 flX4_32 rfl ?_
              obtain ⟨v9, hv, h⟩ := ruB_inv h
              refine ru_iald ddX4_step_106 (rudI_eq hn7) hv ?_
              clear hv
              obtain ⟨v10, hv, h⟩ := ruB_inv h
              refine ru_callSi (as := [.int v9]) (st := []) ddX4_step_107 csX4_58 (wX4_isLetter 1 (Nat.le_refl _) v9 A5 hv) rfl (Nat.le_trans (m := 3) (by decide) hd) (Nat.le_of_ble_eq_true rfl) ?_
              clear hv
              refine ru_if_eq 120 ddX4_step_110 (by decide) (fun hc => ?_) (fun hc => ?_)
              · rw [if_pos hc] at h
                refine ru_aload_n ddX4_step_120 rfl ?_
                refine ru_aload_n ddX4_step_121 rfl ?_
                refine ru_getR ddX4_step_122 flX4_15 rfl (show ruref A5 70 0 = some A5.2.2.1 from rfl) ?_
                refine ru_aload_n ddX4_step_125 rfl ?_
                refine ru_getI ddX4_step_126 flX4_32 rfl ?_
                obtain ⟨v11, hv, h⟩ := ruB_inv h
                refine ru_iald ddX4_step_129 (rudI_eq hn7) hv ?_
                clear hv
                obtain ⟨A12, hv, h⟩ := ruB_inv h
                refine ru_putI2 ddX4_step_130 flX4_42 fp4_4 rfl hv ?_
                clear hv
                refine ru_aload_n ddX4_step_133 rfl ?_
                refine ru_dup ddX4_step_134 rfl ?_
                refine ru_getI ddX4_step_135 flX4_32 rfl ?_
                refine ru_iconst (1 : Int32) ddX4_step_138 rfl ?_
                refine ru_iadd ddX4_step_139 ?_
                obtain ⟨A13, hv, h⟩ := ruB_inv h
                refine ru_putI2 ddX4_step_140 flX4_32 fp4_2 rfl hv ?_
                clear hv
                exact ru_vretW ddX4_step_143 rfl h
              · rw [if_neg hc] at h
                refine ru_aload_n ddX4_step_113 rfl ?_
                obtain ⟨A14, hv, h⟩ := ruB_inv h
                refine ru_callVv (as := []) (st := []) ddX4_step_114 cvX4_61 rfl (wX4_stepWord 2 (Nat.le_refl _) A5 hv) rfl (Nat.le_trans (m := 3) (by decide) hd) (Nat.le_of_ble_eq_true rfl) ?_
                clear hv
                refine ru_goto 143 ddX4_step_117 (by decide) ?_
                exact ru_vretW ddX4_step_143 rfl h
            · rw [if_neg hc] at h
              refine ru_aload_n ddX4_step_91 rfl ?_
              obtain ⟨A15, hv, h⟩ := ruB_inv h
              refine ru_callVv (as := []) (st := []) ddX4_step_92 cvX4_55 rfl (wX4_stepNumber 2 (Nat.le_refl _) A5 hv) rfl (Nat.le_trans (m := 3) (by decide) hd) (Nat.le_of_ble_eq_true rfl) ?_
              clear hv
              refine ru_goto 143 ddX4_step_95 (by decide) ?_
              exact ru_vretW ddX4_step_143 rfl h
          · rw [if_neg hc] at h
            refine ru_aload_n ddX4_step_66 rfl ?_
            refine ru_sipush (257 : Int32) ddX4_step_67 rfl ?_
            obtain ⟨A16, hv, h⟩ := ruB_inv h
            refine ru_putI2 ddX4_step_70 flX4_42 fp4_4 rfl hv ?_
            clear hv
            refine ru_goto 143 ddX4_step_73 (by decide) ?_
            exact ru_vretW ddX4_step_143 rfl h) ruF A h
  · rw [if_neg hc] at h
    exact ru_vretW ddX4_step_8 rfl h
theorem wX4_fail {E : ruE} (d : Nat) (hd : 1 ≤ d) (A : ruA) {B : ruA} (h : fX4_fail A = some B) : ruC E mmX4_fail d [rurf E 70] A (ruPv B) := by
  refine ruC.of (L := [some (rurf E 70)]) (by decide) rfl (Nat.le_of_ble_eq_true rfl) rfl ?_
  unfold fX4_fail at h
  refine ru_aload_n ddX4_fail_0 rfl ?_
  refine ru_getI ddX4_fail_1 flX4_25 rfl ?_
  refine ru_iconst (-1 : Int32) ddX4_fail_4 rfl ?_
  refine ru_icmp_ne 23 ddX4_fail_5 (by decide) (fun hc => ?_) (fun hc => ?_)
  · rw [if_neg hc] at h
    exact ru_vretW ddX4_fail_23 rfl h
  · rw [if_pos hc] at h
    refine ru_aload_n ddX4_fail_8 rfl ?_
    refine ru_aload_n ddX4_fail_9 rfl ?_
    refine ru_getI ddX4_fail_10 flX4_48 rfl ?_
    obtain ⟨A1, hv, h⟩ := ruB_inv h
    refine ru_putI2 ddX4_fail_13 flX4_25 fp4_6 rfl hv ?_
    clear hv
    refine ru_aload_n ddX4_fail_16 rfl ?_
    refine ru_sipush (257 : Int32) ddX4_fail_17 rfl ?_
    obtain ⟨A2, hv, h⟩ := ruB_inv h
    refine ru_putI2 ddX4_fail_20 flX4_42 fp4_4 rfl hv ?_
    clear hv
    exact ru_vretW ddX4_fail_23 rfl h
theorem wX4_part {E : ruE} (d : Nat) {dg : Nat} {gX4_either : Int32 → ruA → Option (Int32 × ruA)} (hgX4_either : ∀ (y0 : Int32) (A : ruA) (r : Int32) (B : ruA), gX4_either y0 A = some (r, B) → ruC E mmX4_either dg [rurf E 70, .int y0] A (ruPr r B)) (hdg : 19 ≤ dg) (hd : dg + 1 ≤ d) (x1 : Int32) (A : ruA) {r : Int32} {B : ruA} (h : fX4_part gX4_either x1 A = some (r, B)) : ruC E mmX4_part d [rurf E 70, .int x1] A (ruPr r B) := by
  refine ruC.of (L := [some (rurf E 70), some (.int x1), none]) (by decide) rfl (Nat.le_of_ble_eq_true rfl) rfl ?_
  unfold fX4_part at h
  refine ru_aload_n ddX4_part_0 rfl ?_
  refine ru_getI ddX4_part_1 flX4_42 rfl ?_
  refine ru_sipush (256 : Int32) ddX4_part_4 rfl ?_
  refine ru_icmp_ne 21 ddX4_part_7 (by decide) (fun hc => ?_) (fun hc => ?_)
  · rw [if_neg hc] at h
    refine ru_aload_n ddX4_part_21 rfl ?_
    refine ru_getI ddX4_part_22 flX4_42 rfl ?_
    refine ru_bipush (40 : Int32) ddX4_part_25 rfl ?_
    refine ru_icmp_ne 36 ddX4_part_27 (by decide) (fun hc => ?_) (fun hc => ?_)
    · rw [if_neg hc] at h
      refine ru_aload_n ddX4_part_36 rfl ?_
      obtain ⟨A1, hv, h⟩ := ruB_inv h
      refine ru_callVv (as := []) (st := []) ddX4_part_37 cvX4_45 rfl (wX4_fail 1 (Nat.le_refl _) A hv) rfl (by omega) (Nat.le_of_ble_eq_true rfl) ?_
      clear hv
      refine ru_iconst (0 : Int32) ddX4_part_40 rfl ?_
      exact ru_iretW ddX4_part_41 rfl h
    · rw [if_pos hc] at h
      refine ru_iload_n ddX4_part_30 rfl ?_
      refine ru_bipush (6 : Int32) ddX4_part_31 rfl ?_
      refine ru_icmp_lt 42 ddX4_part_33 (by decide) (fun hc => ?_) (fun hc => ?_)
      · rw [if_pos hc] at h
        refine ru_aload_n ddX4_part_42 rfl ?_
        obtain ⟨A2, hv, h⟩ := ruB_inv h
        refine ru_callVv (as := []) (st := []) ddX4_part_43 cvX4_35 rfl (wX4_step 3 (Nat.le_refl _) A hv) rfl (by omega) (Nat.le_of_ble_eq_true rfl) ?_
        clear hv
        refine ru_aload_n ddX4_part_46 rfl ?_
        refine ru_iload_n ddX4_part_47 rfl ?_
        refine ru_iconst (1 : Int32) ddX4_part_48 rfl ?_
        refine ru_iadd ddX4_part_49 ?_
        obtain ⟨v3, A4, hv, h⟩ := ruB2_inv h
        refine ru_callVi (as := [.int (x1 + (1 : Int32))]) (st := []) ddX4_part_50 cvX4_38 rfl (hgX4_either (x1 + (1 : Int32)) A2 _ _ hv) rfl hd (Nat.le_of_ble_eq_true rfl) ?_
        clear hv
        refine ru_istore_n ddX4_part_53 (by decide) rfl rfl ?_
        refine ru_aload_n ddX4_part_54 rfl ?_
        refine ru_getI ddX4_part_55 flX4_42 rfl ?_
        refine ru_bipush (41 : Int32) ddX4_part_58 rfl ?_
        obtain ⟨A5, hq, h⟩ := ruB_inv h
        have J : ruW E mmX4_part d (ruPr r B) 74 [none, none, some (.int v3)] [] A5 := by
            refine ru_iload_n ddX4_part_74 rfl ?_
            exact ru_iretW ddX4_part_75 rfl h
        replace h := hq
        clear hq
        refine ru_icmp_ne 70 ddX4_part_60 (by decide) (fun hc => ?_) (fun hc => ?_)
        · rw [if_neg hc] at h
          refine ru_aload_n ddX4_part_70 rfl ?_
          obtain ⟨A6, hv, h⟩ := ruB_inv h
          refine ru_callVv (as := []) (st := []) ddX4_part_71 cvX4_45 rfl (wX4_fail 1 (Nat.le_refl _) A4 hv) rfl (by omega) (Nat.le_of_ble_eq_true rfl) ?_
          clear hv
          refine ru_wk (L2 := [none, none, some (.int v3)]) ⟨rfl, trivial⟩ ?_
          obtain rfl := ruS1 h
          exact J
        · rw [if_pos hc] at h
          refine ru_aload_n ddX4_part_63 rfl ?_
          obtain ⟨A7, hv, h⟩ := ruB_inv h
          refine ru_callVv (as := []) (st := []) ddX4_part_64 cvX4_35 rfl (wX4_step 3 (Nat.le_refl _) A4 hv) rfl (by omega) (Nat.le_of_ble_eq_true rfl) ?_
          clear hv
          refine ru_goto 74 ddX4_part_67 (by decide) ?_
          refine ru_wk (L2 := [none, none, some (.int v3)]) ⟨rfl, trivial⟩ ?_
          obtain rfl := ruS1 h
          exact J
      · rw [if_neg hc] at h
        refine ru_aload_n ddX4_part_36 rfl ?_
        obtain ⟨A8, hv, h⟩ := ruB_inv h
        refine ru_callVv (as := []) (st := []) ddX4_part_37 cvX4_45 rfl (wX4_fail 1 (Nat.le_refl _) A hv) rfl (by omega) (Nat.le_of_ble_eq_true rfl) ?_
        clear hv
        refine ru_iconst (0 : Int32) ddX4_part_40 rfl ?_
        exact ru_iretW ddX4_part_41 rfl h
  · rw [if_pos hc] at h
    refine ru_aload_n ddX4_part_10 rfl ?_
    refine ru_getI ddX4_part_11 flX4_64 rfl ?_
    refine ru_istore_n ddX4_part_14 (by decide) rfl rfl ?_
    refine ru_aload_n ddX4_part_15 rfl ?_
    obtain ⟨A9, hv, h⟩ := ruB_inv h
    refine ru_callVv (as := []) (st := []) ddX4_part_16 cvX4_35 rfl (wX4_step 3 (Nat.le_refl _) A hv) rfl (by omega) (Nat.le_of_ble_eq_true rfl) ?_
    clear hv
    refine ru_iload_n ddX4_part_19 rfl ?_
    exact ru_iretW ddX4_part_20 rfl h
theorem wX4_sum_l8 {E : ruE} {d : Nat} {dg : Nat} {gX4_part : Int32 → ruA → Option (Int32 × ruA)} (hgX4_part : ∀ (y0 : Int32) (A : ruA) (r : Int32) (B : ruA), gX4_part y0 A = some (r, B) → ruC E mmX4_part dg [rurf E 70, .int y0] A (ruPr r B)) (hdg : 19 ≤ dg) (hd : dg + 1 ≤ d) {β : Type} {Q : Option Value → ruA → Prop} {res : β} (x1 : Int32) {k82 : Int32 → ruA → Option (β)} (hk82 : ∀ (x2 : Int32) (A : ruA), k82 x2 A = some res → ruW E mmX4_sum d Q 82 [none, none, some (.int x2), none, none, none] [] A) : ∀ (n : Nat) (x2 : Int32) (x3 : Int32) (A : ruA), fX4_sum_l8 gX4_part x1 k82 n x2 x3 A = some res → ruW E mmX4_sum d Q 8 [some (rurf E 70), some (.int x1), some (.int x2), some (.int x3), none, none] [] A := by
  intro n
  induction n with
  | zero =>
    intro x2 x3 A h
    exact absurd h (by rw [fX4_sum_l8]; exact fun h => nomatch h)
  | succ n ih =>
    intro x2 x3 A h
    rw [fX4_sum_l8] at h
    refine ru_iload_n ddX4_sum_8 rfl ?_
    refine ru_bipush (100 : Int32) ddX4_sum_9 rfl ?_
    refine ru_icmp_ge 82 ddX4_sum_11 (by decide) (fun hc => ?_) (fun hc => ?_)
    · rw [if_pos hc] at h
      refine ru_wk (L2 := [none, none, some (.int x2), none, none, none]) ⟨rfl, trivial⟩ ?_
      exact hk82 x2 A h
    · rw [if_neg hc] at h
      refine ru_aload_n ddX4_sum_14 rfl ?_
      refine ru_getI ddX4_sum_15 flX4_42 rfl ?_
      refine ru_bipush (43 : Int32) ddX4_sum_18 rfl ?_
      refine ru_icmp_eq 32 ddX4_sum_20 (by decide) (fun hc => ?_) (fun hc => ?_)
      · rw [if_pos hc] at h
        refine ru_aload_n ddX4_sum_32 rfl ?_
        refine ru_getI ddX4_sum_33 flX4_42 rfl ?_
        refine ru_bipush (43 : Int32) ddX4_sum_36 rfl ?_
        obtain ⟨v3, hq, h⟩ := ruB_inv h
        have J : ruW E mmX4_sum d Q 46 [some (rurf E 70), some (.int x1), some (.int x2), some (.int x3), none, none] [.int v3] A := by
            refine ru_istore ddX4_sum_46 (by decide) rfl rfl ?_
            refine ru_aload_n ddX4_sum_48 rfl ?_
            obtain ⟨A4, hv, h⟩ := ruB_inv h
            refine ru_callVv (as := []) (st := []) ddX4_sum_49 cvX4_35 rfl (wX4_step 3 (Nat.le_refl _) A hv) rfl (by omega) (Nat.le_of_ble_eq_true rfl) ?_
            clear hv
            refine ru_aload_n ddX4_sum_52 rfl ?_
            refine ru_iload_n ddX4_sum_53 rfl ?_
            obtain ⟨v5, A6, hv, h⟩ := ruB2_inv h
            refine ru_callVi (as := [.int x1]) (st := []) ddX4_sum_54 cvX4_82 rfl (hgX4_part x1 A4 _ _ hv) rfl hd (Nat.le_of_ble_eq_true rfl) ?_
            clear hv
            refine ru_istore ddX4_sum_57 (by decide) rfl rfl ?_
            refine ru_iload ddX4_sum_59 rfl ?_
            obtain ⟨v7, hq, h⟩ := ruB_inv h
            have J : ruW E mmX4_sum d Q 75 [some (rurf E 70), some (.int x1), none, some (.int x3), none, none] [.int v7] A6 := by
                refine ru_istore_n ddX4_sum_75 (by decide) rfl rfl ?_
                refine ru_iinc (x3 + (1 : Int32)) ddX4_sum_76 (by decide) rfl rfl rfl rfl ?_
                refine ru_goto 8 ddX4_sum_79 (by decide) ?_
                exact ih v7 (x3 + (1 : Int32)) A6 h
            replace h := hq
            clear hq
            refine ru_if_eq 71 ddX4_sum_61 (by decide) (fun hc => ?_) (fun hc => ?_)
            · rw [if_pos hc] at h
              refine ru_iload_n ddX4_sum_71 rfl ?_
              refine ru_iload ddX4_sum_72 rfl ?_
              refine ru_isub ddX4_sum_74 ?_
              refine ru_wk (L2 := [some (rurf E 70), some (.int x1), none, some (.int x3), none, none]) ⟨rfl, rfl, rfl, trivial⟩ ?_
              obtain rfl := ruS1 h
              exact J
            · rw [if_neg hc] at h
              refine ru_iload_n ddX4_sum_64 rfl ?_
              refine ru_iload ddX4_sum_65 rfl ?_
              refine ru_iadd ddX4_sum_67 ?_
              refine ru_goto 75 ddX4_sum_68 (by decide) ?_
              refine ru_wk (L2 := [some (rurf E 70), some (.int x1), none, some (.int x3), none, none]) ⟨rfl, rfl, rfl, trivial⟩ ?_
              obtain rfl := ruS1 h
              exact J
        replace h := hq
        clear hq
        refine ru_icmp_ne 45 ddX4_sum_38 (by decide) (fun hc => ?_) (fun hc => ?_)
        · rw [if_neg hc] at h
          refine ru_iconst (0 : Int32) ddX4_sum_45 rfl ?_
          obtain rfl := ruS1 h
          exact J
        · rw [if_pos hc] at h
          refine ru_iconst (1 : Int32) ddX4_sum_41 rfl ?_
          refine ru_goto 46 ddX4_sum_42 (by decide) ?_
          obtain rfl := ruS1 h
          exact J
      · rw [if_neg hc] at h
        refine ru_aload_n ddX4_sum_23 rfl ?_
        refine ru_getI ddX4_sum_24 flX4_42 rfl ?_
        refine ru_bipush (45 : Int32) ddX4_sum_27 rfl ?_
        refine ru_icmp_ne 82 ddX4_sum_29 (by decide) (fun hc => ?_) (fun hc => ?_)
        · rw [if_neg hc] at h
          refine ru_wk (L2 := [none, none, some (.int x2), none, none, none]) ⟨rfl, trivial⟩ ?_
          exact hk82 x2 A h
        · rw [if_pos hc] at h
          refine ru_aload_n ddX4_sum_32 rfl ?_
          refine ru_getI ddX4_sum_33 flX4_42 rfl ?_
          refine ru_bipush (43 : Int32) ddX4_sum_36 rfl ?_
          obtain ⟨v8, hq, h⟩ := ruB_inv h
          have J : ruW E mmX4_sum d Q 46 [some (rurf E 70), some (.int x1), some (.int x2), some (.int x3), none, none] [.int v8] A := by
              refine ru_istore ddX4_sum_46 (by decide) rfl rfl ?_
              refine ru_aload_n ddX4_sum_48 rfl ?_
              obtain ⟨A9, hv, h⟩ := ruB_inv h
              refine ru_callVv (as := []) (st := []) ddX4_sum_49 cvX4_35 rfl (wX4_step 3 (Nat.le_refl _) A hv) rfl (by omega) (Nat.le_of_ble_eq_true rfl) ?_
              clear hv
              refine ru_aload_n ddX4_sum_52 rfl ?_
              refine ru_iload_n ddX4_sum_53 rfl ?_
              obtain ⟨v10, A11, hv, h⟩ := ruB2_inv h
              refine ru_callVi (as := [.int x1]) (st := []) ddX4_sum_54 cvX4_82 rfl (hgX4_part x1 A9 _ _ hv) rfl hd (Nat.le_of_ble_eq_true rfl) ?_
              clear hv
              refine ru_istore ddX4_sum_57 (by decide) rfl rfl ?_
              refine ru_iload ddX4_sum_59 rfl ?_
              obtain ⟨v12, hq, h⟩ := ruB_inv h
              have J : ruW E mmX4_sum d Q 75 [some (rurf E 70), some (.int x1), none, some (.int x3), none, none] [.int v12] A11 := by
                  refine ru_istore_n ddX4_sum_75 (by decide) rfl rfl ?_
                  refine ru_iinc (x3 + (1 : Int32)) ddX4_sum_76 (by decide) rfl rfl rfl rfl ?_
                  refine ru_goto 8 ddX4_sum_79 (by decide) ?_
                  exact ih v12 (x3 + (1 : Int32)) A11 h
              replace h := hq
              clear hq
              refine ru_if_eq 71 ddX4_sum_61 (by decide) (fun hc => ?_) (fun hc => ?_)
              · rw [if_pos hc] at h
                refine ru_iload_n ddX4_sum_71 rfl ?_
                refine ru_iload ddX4_sum_72 rfl ?_
                refine ru_isub ddX4_sum_74 ?_
                refine ru_wk (L2 := [some (rurf E 70), some (.int x1), none, some (.int x3), none, none]) ⟨rfl, rfl, rfl, trivial⟩ ?_
                obtain rfl := ruS1 h
                exact J
              · rw [if_neg hc] at h
                refine ru_iload_n ddX4_sum_64 rfl ?_
                refine ru_iload ddX4_sum_65 rfl ?_
                refine ru_iadd ddX4_sum_67 ?_
                refine ru_goto 75 ddX4_sum_68 (by decide) ?_
                refine ru_wk (L2 := [some (rurf E 70), some (.int x1), none, some (.int x3), none, none]) ⟨rfl, rfl, rfl, trivial⟩ ?_
                obtain rfl := ruS1 h
                exact J
          replace h := hq
          clear hq
          refine ru_icmp_ne 45 ddX4_sum_38 (by decide) (fun hc => ?_) (fun hc => ?_)
          · rw [if_neg hc] at h
            refine ru_iconst (0 : Int32) ddX4_sum_45 rfl ?_
            obtain rfl := ruS1 h
            exact J
          · rw [if_pos hc] at h
            refine ru_iconst (1 : Int32) ddX4_sum_41 rfl ?_
            refine ru_goto 46 ddX4_sum_42 (by decide) ?_
            obtain rfl := ruS1 h
            exact J
theorem wX4_sum {E : ruE} (d : Nat) {dg : Nat} {gX4_part : Int32 → ruA → Option (Int32 × ruA)} (hgX4_part : ∀ (y0 : Int32) (A : ruA) (r : Int32) (B : ruA), gX4_part y0 A = some (r, B) → ruC E mmX4_part dg [rurf E 70, .int y0] A (ruPr r B)) (hdg : 19 ≤ dg) (hd : dg + 1 ≤ d) (x1 : Int32) (A : ruA) {r : Int32} {B : ruA} (h : fX4_sum gX4_part x1 A = some (r, B)) : ruC E mmX4_sum d [rurf E 70, .int x1] A (ruPr r B) := by
  refine ruC.of (L := [some (rurf E 70), some (.int x1), none, none, none, none]) (by decide) rfl (Nat.le_of_ble_eq_true rfl) rfl ?_
  unfold fX4_sum at h
  refine ru_aload_n ddX4_sum_0 rfl ?_
  refine ru_iload_n ddX4_sum_1 rfl ?_
  obtain ⟨v1, A2, hv, h⟩ := ruB2_inv h
  refine ru_callVi (as := [.int x1]) (st := []) ddX4_sum_2 cvX4_82 rfl (hgX4_part x1 A _ _ hv) rfl hd (Nat.le_of_ble_eq_true rfl) ?_
  clear hv
  refine ru_istore_n ddX4_sum_5 (by decide) rfl rfl ?_
  refine ru_iconst (0 : Int32) ddX4_sum_6 rfl ?_
  refine ru_istore_n ddX4_sum_7 (by decide) rfl rfl ?_
  exact wX4_sum_l8 hgX4_part hdg hd x1 (fun v13 A14 h => by
        refine ru_iload_n ddX4_sum_82 rfl ?_
        exact ru_iretW ddX4_sum_83 rfl h) ruF v1 (0 : Int32) A2 h
theorem wX4_compared {E : ruE} (d : Nat) {dg : Nat} {gX4_sum : Int32 → ruA → Option (Int32 × ruA)} (hgX4_sum : ∀ (y0 : Int32) (A : ruA) (r : Int32) (B : ruA), gX4_sum y0 A = some (r, B) → ruC E mmX4_sum dg [rurf E 70, .int y0] A (ruPr r B)) (hdg : 19 ≤ dg) (hd : dg + 1 ≤ d) (x1 : Int32) (A : ruA) {r : Int32} {B : ruA} (h : fX4_compared gX4_sum x1 A = some (r, B)) : ruC E mmX4_compared d [rurf E 70, .int x1] A (ruPr r B) := by
  refine ruC.of (L := [some (rurf E 70), some (.int x1), none, none, none]) (by decide) rfl (Nat.le_of_ble_eq_true rfl) rfl ?_
  unfold fX4_compared at h
  refine ru_aload_n ddX4_compared_0 rfl ?_
  refine ru_iload_n ddX4_compared_1 rfl ?_
  obtain ⟨v1, A2, hv, h⟩ := ruB2_inv h
  refine ru_callVi (as := [.int x1]) (st := []) ddX4_compared_2 cvX4_79 rfl (hgX4_sum x1 A _ _ hv) rfl hd (Nat.le_of_ble_eq_true rfl) ?_
  clear hv
  refine ru_istore_n ddX4_compared_5 (by decide) rfl rfl ?_
  refine ru_aload_n ddX4_compared_6 rfl ?_
  refine ru_getI ddX4_compared_7 flX4_42 rfl ?_
  refine ru_istore_n ddX4_compared_10 (by decide) rfl rfl ?_
  refine ru_iload_n ddX4_compared_11 rfl ?_
  refine ru_bipush (60 : Int32) ddX4_compared_12 rfl ?_
  refine ru_icmp_eq 31 ddX4_compared_14 (by decide) (fun hc => ?_) (fun hc => ?_)
  · rw [if_pos hc] at h
    refine ru_aload_n ddX4_compared_31 rfl ?_
    obtain ⟨A3, hv, h⟩ := ruB_inv h
    refine ru_callVv (as := []) (st := []) ddX4_compared_32 cvX4_35 rfl (wX4_step 3 (Nat.le_refl _) A2 hv) rfl (by omega) (Nat.le_of_ble_eq_true rfl) ?_
    clear hv
    refine ru_aload_n ddX4_compared_35 rfl ?_
    refine ru_iload_n ddX4_compared_36 rfl ?_
    obtain ⟨v4, A5, hv, h⟩ := ruB2_inv h
    refine ru_callVi (as := [.int x1]) (st := []) ddX4_compared_37 cvX4_79 rfl (hgX4_sum x1 A3 _ _ hv) rfl hd (Nat.le_of_ble_eq_true rfl) ?_
    clear hv
    refine ru_istore ddX4_compared_40 (by decide) rfl rfl ?_
    refine ru_iload_n ddX4_compared_42 rfl ?_
    refine ru_bipush (60 : Int32) ddX4_compared_43 rfl ?_
    refine ru_icmp_ne 60 ddX4_compared_45 (by decide) (fun hc => ?_) (fun hc => ?_)
    · rw [if_neg hc] at h
      refine ru_iload_n ddX4_compared_60 rfl ?_
      refine ru_bipush (61 : Int32) ddX4_compared_61 rfl ?_
      refine ru_icmp_ne 80 ddX4_compared_63 (by decide) (fun hc => ?_) (fun hc => ?_)
      · rw [if_neg hc] at h
        refine ru_iload_n ddX4_compared_80 rfl ?_
        refine ru_iload ddX4_compared_81 rfl ?_
        refine ru_icmp_le 90 ddX4_compared_83 (by decide) (fun hc => ?_) (fun hc => ?_)
        · rw [if_pos hc] at h
          refine ru_iconst (0 : Int32) ddX4_compared_90 rfl ?_
          exact ru_iretW ddX4_compared_91 rfl h
        · rw [if_neg hc] at h
          refine ru_iconst (1 : Int32) ddX4_compared_86 rfl ?_
          refine ru_goto 91 ddX4_compared_87 (by decide) ?_
          exact ru_iretW ddX4_compared_91 rfl h
      · rw [if_pos hc] at h
        refine ru_iload_n ddX4_compared_66 rfl ?_
        refine ru_iload ddX4_compared_67 rfl ?_
        refine ru_icmp_ne 76 ddX4_compared_69 (by decide) (fun hc => ?_) (fun hc => ?_)
        · rw [if_neg hc] at h
          refine ru_iconst (0 : Int32) ddX4_compared_76 rfl ?_
          refine ru_goto 91 ddX4_compared_77 (by decide) ?_
          exact ru_iretW ddX4_compared_91 rfl h
        · rw [if_pos hc] at h
          refine ru_iconst (1 : Int32) ddX4_compared_72 rfl ?_
          refine ru_goto 91 ddX4_compared_73 (by decide) ?_
          exact ru_iretW ddX4_compared_91 rfl h
    · rw [if_pos hc] at h
      refine ru_iload_n ddX4_compared_48 rfl ?_
      refine ru_iload ddX4_compared_49 rfl ?_
      refine ru_icmp_ge 58 ddX4_compared_51 (by decide) (fun hc => ?_) (fun hc => ?_)
      · rw [if_pos hc] at h
        refine ru_iconst (0 : Int32) ddX4_compared_58 rfl ?_
        exact ru_iretW ddX4_compared_59 rfl h
      · rw [if_neg hc] at h
        refine ru_iconst (1 : Int32) ddX4_compared_54 rfl ?_
        refine ru_goto 59 ddX4_compared_55 (by decide) ?_
        exact ru_iretW ddX4_compared_59 rfl h
  · rw [if_neg hc] at h
    refine ru_iload_n ddX4_compared_17 rfl ?_
    refine ru_bipush (61 : Int32) ddX4_compared_18 rfl ?_
    refine ru_icmp_eq 31 ddX4_compared_20 (by decide) (fun hc => ?_) (fun hc => ?_)
    · rw [if_pos hc] at h
      refine ru_aload_n ddX4_compared_31 rfl ?_
      obtain ⟨A6, hv, h⟩ := ruB_inv h
      refine ru_callVv (as := []) (st := []) ddX4_compared_32 cvX4_35 rfl (wX4_step 3 (Nat.le_refl _) A2 hv) rfl (by omega) (Nat.le_of_ble_eq_true rfl) ?_
      clear hv
      refine ru_aload_n ddX4_compared_35 rfl ?_
      refine ru_iload_n ddX4_compared_36 rfl ?_
      obtain ⟨v7, A8, hv, h⟩ := ruB2_inv h
      refine ru_callVi (as := [.int x1]) (st := []) ddX4_compared_37 cvX4_79 rfl (hgX4_sum x1 A6 _ _ hv) rfl hd (Nat.le_of_ble_eq_true rfl) ?_
      clear hv
      refine ru_istore ddX4_compared_40 (by decide) rfl rfl ?_
      refine ru_iload_n ddX4_compared_42 rfl ?_
      refine ru_bipush (60 : Int32) ddX4_compared_43 rfl ?_
      refine ru_icmp_ne 60 ddX4_compared_45 (by decide) (fun hc => ?_) (fun hc => ?_)
      · rw [if_neg hc] at h
        refine ru_iload_n ddX4_compared_60 rfl ?_
        refine ru_bipush (61 : Int32) ddX4_compared_61 rfl ?_
        refine ru_icmp_ne 80 ddX4_compared_63 (by decide) (fun hc => ?_) (fun hc => ?_)
        · rw [if_neg hc] at h
          refine ru_iload_n ddX4_compared_80 rfl ?_
          refine ru_iload ddX4_compared_81 rfl ?_
          refine ru_icmp_le 90 ddX4_compared_83 (by decide) (fun hc => ?_) (fun hc => ?_)
          · rw [if_pos hc] at h
            refine ru_iconst (0 : Int32) ddX4_compared_90 rfl ?_
            exact ru_iretW ddX4_compared_91 rfl h
          · rw [if_neg hc] at h
            refine ru_iconst (1 : Int32) ddX4_compared_86 rfl ?_
            refine ru_goto 91 ddX4_compared_87 (by decide) ?_
            exact ru_iretW ddX4_compared_91 rfl h
        · rw [if_pos hc] at h
          refine ru_iload_n ddX4_compared_66 rfl ?_
          refine ru_iload ddX4_compared_67 rfl ?_
          refine ru_icmp_ne 76 ddX4_compared_69 (by decide) (fun hc => ?_) (fun hc => ?_)
          · rw [if_neg hc] at h
            refine ru_iconst (0 : Int32) ddX4_compared_76 rfl ?_
            refine ru_goto 91 ddX4_compared_77 (by decide) ?_
            exact ru_iretW ddX4_compared_91 rfl h
          · rw [if_pos hc] at h
            refine ru_iconst (1 : Int32) ddX4_compared_72 rfl ?_
            refine ru_goto 91 ddX4_compared_73 (by decide) ?_
            exact ru_iretW ddX4_compared_91 rfl h
      · rw [if_pos hc] at h
        refine ru_iload_n ddX4_compared_48 rfl ?_
        refine ru_iload ddX4_compared_49 rfl ?_
        refine ru_icmp_ge 58 ddX4_compared_51 (by decide) (fun hc => ?_) (fun hc => ?_)
        · rw [if_pos hc] at h
          refine ru_iconst (0 : Int32) ddX4_compared_58 rfl ?_
          exact ru_iretW ddX4_compared_59 rfl h
        · rw [if_neg hc] at h
          refine ru_iconst (1 : Int32) ddX4_compared_54 rfl ?_
          refine ru_goto 59 ddX4_compared_55 (by decide) ?_
          exact ru_iretW ddX4_compared_59 rfl h
    · rw [if_neg hc] at h
      refine ru_iload_n ddX4_compared_23 rfl ?_
      refine ru_bipush (62 : Int32) ddX4_compared_24 rfl ?_
      refine ru_icmp_eq 31 ddX4_compared_26 (by decide) (fun hc => ?_) (fun hc => ?_)
      · rw [if_pos hc] at h
        refine ru_aload_n ddX4_compared_31 rfl ?_
        obtain ⟨A9, hv, h⟩ := ruB_inv h
        refine ru_callVv (as := []) (st := []) ddX4_compared_32 cvX4_35 rfl (wX4_step 3 (Nat.le_refl _) A2 hv) rfl (by omega) (Nat.le_of_ble_eq_true rfl) ?_
        clear hv
        refine ru_aload_n ddX4_compared_35 rfl ?_
        refine ru_iload_n ddX4_compared_36 rfl ?_
        obtain ⟨v10, A11, hv, h⟩ := ruB2_inv h
        refine ru_callVi (as := [.int x1]) (st := []) ddX4_compared_37 cvX4_79 rfl (hgX4_sum x1 A9 _ _ hv) rfl hd (Nat.le_of_ble_eq_true rfl) ?_
        clear hv
        refine ru_istore ddX4_compared_40 (by decide) rfl rfl ?_
        refine ru_iload_n ddX4_compared_42 rfl ?_
        refine ru_bipush (60 : Int32) ddX4_compared_43 rfl ?_
        refine ru_icmp_ne 60 ddX4_compared_45 (by decide) (fun hc => ?_) (fun hc => ?_)
        · rw [if_neg hc] at h
          refine ru_iload_n ddX4_compared_60 rfl ?_
          refine ru_bipush (61 : Int32) ddX4_compared_61 rfl ?_
          refine ru_icmp_ne 80 ddX4_compared_63 (by decide) (fun hc => ?_) (fun hc => ?_)
          · rw [if_neg hc] at h
            refine ru_iload_n ddX4_compared_80 rfl ?_
            refine ru_iload ddX4_compared_81 rfl ?_
            refine ru_icmp_le 90 ddX4_compared_83 (by decide) (fun hc => ?_) (fun hc => ?_)
            · rw [if_pos hc] at h
              refine ru_iconst (0 : Int32) ddX4_compared_90 rfl ?_
              exact ru_iretW ddX4_compared_91 rfl h
            · rw [if_neg hc] at h
              refine ru_iconst (1 : Int32) ddX4_compared_86 rfl ?_
              refine ru_goto 91 ddX4_compared_87 (by decide) ?_
              exact ru_iretW ddX4_compared_91 rfl h
          · rw [if_pos hc] at h
            refine ru_iload_n ddX4_compared_66 rfl ?_
            refine ru_iload ddX4_compared_67 rfl ?_
            refine ru_icmp_ne 76 ddX4_compared_69 (by decide) (fun hc => ?_) (fun hc => ?_)
            · rw [if_neg hc] at h
              refine ru_iconst (0 : Int32) ddX4_compared_76 rfl ?_
              refine ru_goto 91 ddX4_compared_77 (by decide) ?_
              exact ru_iretW ddX4_compared_91 rfl h
            · rw [if_pos hc] at h
              refine ru_iconst (1 : Int32) ddX4_compared_72 rfl ?_
              refine ru_goto 91 ddX4_compared_73 (by decide) ?_
              exact ru_iretW ddX4_compared_91 rfl h
        · rw [if_pos hc] at h
          refine ru_iload_n ddX4_compared_48 rfl ?_
          refine ru_iload ddX4_compared_49 rfl ?_
          refine ru_icmp_ge 58 ddX4_compared_51 (by decide) (fun hc => ?_) (fun hc => ?_)
          · rw [if_pos hc] at h
            refine ru_iconst (0 : Int32) ddX4_compared_58 rfl ?_
            exact ru_iretW ddX4_compared_59 rfl h
          · rw [if_neg hc] at h
            refine ru_iconst (1 : Int32) ddX4_compared_54 rfl ?_
            refine ru_goto 59 ddX4_compared_55 (by decide) ?_
            exact ru_iretW ddX4_compared_59 rfl h
      · rw [if_neg hc] at h
        refine ru_iload_n ddX4_compared_29 rfl ?_
        exact ru_iretW ddX4_compared_30 rfl h
theorem wX4_denied {E : ruE} (d : Nat) {dg : Nat} {gX4_denied : Int32 → ruA → Option (Int32 × ruA)} {gX4_compared : Int32 → ruA → Option (Int32 × ruA)} (hgX4_denied : ∀ (y0 : Int32) (A : ruA) (r : Int32) (B : ruA), gX4_denied y0 A = some (r, B) → ruC E mmX4_denied dg [rurf E 70, .int y0] A (ruPr r B)) (hgX4_compared : ∀ (y0 : Int32) (A : ruA) (r : Int32) (B : ruA), gX4_compared y0 A = some (r, B) → ruC E mmX4_compared dg [rurf E 70, .int y0] A (ruPr r B)) (hdg : 19 ≤ dg) (hd : dg + 1 ≤ d) (x1 : Int32) (A : ruA) {r : Int32} {B : ruA} (h : fX4_denied gX4_denied gX4_compared x1 A = some (r, B)) : ruC E mmX4_denied d [rurf E 70, .int x1] A (ruPr r B) := by
  refine ruC.of (L := [some (rurf E 70), some (.int x1)]) (by decide) rfl (Nat.le_of_ble_eq_true rfl) rfl ?_
  unfold fX4_denied at h
  refine ru_aload_n ddX4_denied_0 rfl ?_
  refine ru_getI ddX4_denied_1 flX4_42 rfl ?_
  refine ru_bipush (33 : Int32) ddX4_denied_4 rfl ?_
  refine ru_icmp_eq 15 ddX4_denied_6 (by decide) (fun hc => ?_) (fun hc => ?_)
  · rw [if_pos hc] at h
    refine ru_iload_n ddX4_denied_15 rfl ?_
    refine ru_bipush (6 : Int32) ddX4_denied_16 rfl ?_
    refine ru_icmp_lt 27 ddX4_denied_18 (by decide) (fun hc => ?_) (fun hc => ?_)
    · rw [if_pos hc] at h
      refine ru_aload_n ddX4_denied_27 rfl ?_
      obtain ⟨A1, hv, h⟩ := ruB_inv h
      refine ru_callVv (as := []) (st := []) ddX4_denied_28 cvX4_35 rfl (wX4_step 3 (Nat.le_refl _) A hv) rfl (by omega) (Nat.le_of_ble_eq_true rfl) ?_
      clear hv
      refine ru_aload_n ddX4_denied_31 rfl ?_
      refine ru_iload_n ddX4_denied_32 rfl ?_
      refine ru_iconst (1 : Int32) ddX4_denied_33 rfl ?_
      refine ru_iadd ddX4_denied_34 ?_
      obtain ⟨v2, A3, hv, h⟩ := ruB2_inv h
      refine ru_callVi (as := [.int (x1 + (1 : Int32))]) (st := []) ddX4_denied_35 cvX4_73 rfl (hgX4_denied (x1 + (1 : Int32)) A1 _ _ hv) rfl hd (Nat.le_of_ble_eq_true rfl) ?_
      clear hv
      refine ru_if_ne 45 ddX4_denied_38 (by decide) (fun hc => ?_) (fun hc => ?_)
      · rw [if_neg hc] at h
        refine ru_iconst (0 : Int32) ddX4_denied_45 rfl ?_
        exact ru_iretW ddX4_denied_46 rfl h
      · rw [if_pos hc] at h
        refine ru_iconst (1 : Int32) ddX4_denied_41 rfl ?_
        refine ru_goto 46 ddX4_denied_42 (by decide) ?_
        exact ru_iretW ddX4_denied_46 rfl h
    · rw [if_neg hc] at h
      refine ru_aload_n ddX4_denied_21 rfl ?_
      obtain ⟨A4, hv, h⟩ := ruB_inv h
      refine ru_callVv (as := []) (st := []) ddX4_denied_22 cvX4_45 rfl (wX4_fail 1 (Nat.le_refl _) A hv) rfl (by omega) (Nat.le_of_ble_eq_true rfl) ?_
      clear hv
      refine ru_iconst (0 : Int32) ddX4_denied_25 rfl ?_
      exact ru_iretW ddX4_denied_26 rfl h
  · rw [if_neg hc] at h
    refine ru_aload_n ddX4_denied_9 rfl ?_
    refine ru_iload_n ddX4_denied_10 rfl ?_
    obtain ⟨v5, A6, hv, h⟩ := ruB2_inv h
    refine ru_callVi (as := [.int x1]) (st := []) ddX4_denied_11 cvX4_76 rfl (hgX4_compared x1 A _ _ hv) rfl hd (Nat.le_of_ble_eq_true rfl) ?_
    clear hv
    exact ru_iretW ddX4_denied_14 rfl h
theorem wX4_both_l8 {E : ruE} {d : Nat} {dg : Nat} {gX4_denied : Int32 → ruA → Option (Int32 × ruA)} (hgX4_denied : ∀ (y0 : Int32) (A : ruA) (r : Int32) (B : ruA), gX4_denied y0 A = some (r, B) → ruC E mmX4_denied dg [rurf E 70, .int y0] A (ruPr r B)) (hdg : 19 ≤ dg) (hd : dg + 1 ≤ d) {β : Type} {Q : Option Value → ruA → Prop} {res : β} (x1 : Int32) {k55 : Int32 → ruA → Option (β)} (hk55 : ∀ (x2 : Int32) (A : ruA), k55 x2 A = some res → ruW E mmX4_both d Q 55 [none, none, some (.int x2), none, none] [] A) : ∀ (n : Nat) (x2 : Int32) (x3 : Int32) (A : ruA), fX4_both_l8 gX4_denied x1 k55 n x2 x3 A = some res → ruW E mmX4_both d Q 8 [some (rurf E 70), some (.int x1), some (.int x2), some (.int x3), none] [] A := by
  intro n
  induction n with
  | zero =>
    intro x2 x3 A h
    exact absurd h (by rw [fX4_both_l8]; exact fun h => nomatch h)
  | succ n ih =>
    intro x2 x3 A h
    rw [fX4_both_l8] at h
    refine ru_iload_n ddX4_both_8 rfl ?_
    refine ru_bipush (100 : Int32) ddX4_both_9 rfl ?_
    refine ru_icmp_ge 55 ddX4_both_11 (by decide) (fun hc => ?_) (fun hc => ?_)
    · rw [if_pos hc] at h
      refine ru_wk (L2 := [none, none, some (.int x2), none, none]) ⟨rfl, trivial⟩ ?_
      exact hk55 x2 A h
    · rw [if_neg hc] at h
      refine ru_aload_n ddX4_both_14 rfl ?_
      refine ru_getI ddX4_both_15 flX4_42 rfl ?_
      refine ru_bipush (38 : Int32) ddX4_both_18 rfl ?_
      refine ru_icmp_ne 55 ddX4_both_20 (by decide) (fun hc => ?_) (fun hc => ?_)
      · rw [if_neg hc] at h
        refine ru_wk (L2 := [none, none, some (.int x2), none, none]) ⟨rfl, trivial⟩ ?_
        exact hk55 x2 A h
      · rw [if_pos hc] at h
        refine ru_aload_n ddX4_both_23 rfl ?_
        obtain ⟨A3, hv, h⟩ := ruB_inv h
        refine ru_callVv (as := []) (st := []) ddX4_both_24 cvX4_35 rfl (wX4_step 3 (Nat.le_refl _) A hv) rfl (by omega) (Nat.le_of_ble_eq_true rfl) ?_
        clear hv
        refine ru_aload_n ddX4_both_27 rfl ?_
        refine ru_iload_n ddX4_both_28 rfl ?_
        obtain ⟨v4, A5, hv, h⟩ := ruB2_inv h
        refine ru_callVi (as := [.int x1]) (st := []) ddX4_both_29 cvX4_73 rfl (hgX4_denied x1 A3 _ _ hv) rfl hd (Nat.le_of_ble_eq_true rfl) ?_
        clear hv
        refine ru_istore ddX4_both_32 (by decide) rfl rfl ?_
        refine ru_iload_n ddX4_both_34 rfl ?_
        obtain ⟨v6, hq, h⟩ := ruB_inv h
        have J : ruW E mmX4_both d Q 48 [some (rurf E 70), some (.int x1), none, some (.int x3), none] [.int v6] A5 := by
            refine ru_istore_n ddX4_both_48 (by decide) rfl rfl ?_
            refine ru_iinc (x3 + (1 : Int32)) ddX4_both_49 (by decide) rfl rfl rfl rfl ?_
            refine ru_goto 8 ddX4_both_52 (by decide) ?_
            exact ih v6 (x3 + (1 : Int32)) A5 h
        replace h := hq
        clear hq
        refine ru_if_eq 47 ddX4_both_35 (by decide) (fun hc => ?_) (fun hc => ?_)
        · rw [if_pos hc] at h
          refine ru_iconst (0 : Int32) ddX4_both_47 rfl ?_
          refine ru_wk (L2 := [some (rurf E 70), some (.int x1), none, some (.int x3), none]) ⟨rfl, rfl, rfl, trivial⟩ ?_
          obtain rfl := ruS1 h
          exact J
        · rw [if_neg hc] at h
          refine ru_iload ddX4_both_38 rfl ?_
          refine ru_if_eq 47 ddX4_both_40 (by decide) (fun hc => ?_) (fun hc => ?_)
          · rw [if_pos hc] at h
            refine ru_iconst (0 : Int32) ddX4_both_47 rfl ?_
            refine ru_wk (L2 := [some (rurf E 70), some (.int x1), none, some (.int x3), none]) ⟨rfl, rfl, rfl, trivial⟩ ?_
            obtain rfl := ruS1 h
            exact J
          · rw [if_neg hc] at h
            refine ru_iconst (1 : Int32) ddX4_both_43 rfl ?_
            refine ru_goto 48 ddX4_both_44 (by decide) ?_
            refine ru_wk (L2 := [some (rurf E 70), some (.int x1), none, some (.int x3), none]) ⟨rfl, rfl, rfl, trivial⟩ ?_
            obtain rfl := ruS1 h
            exact J
theorem wX4_both {E : ruE} (d : Nat) {dg : Nat} {gX4_denied : Int32 → ruA → Option (Int32 × ruA)} (hgX4_denied : ∀ (y0 : Int32) (A : ruA) (r : Int32) (B : ruA), gX4_denied y0 A = some (r, B) → ruC E mmX4_denied dg [rurf E 70, .int y0] A (ruPr r B)) (hdg : 19 ≤ dg) (hd : dg + 1 ≤ d) (x1 : Int32) (A : ruA) {r : Int32} {B : ruA} (h : fX4_both gX4_denied x1 A = some (r, B)) : ruC E mmX4_both d [rurf E 70, .int x1] A (ruPr r B) := by
  refine ruC.of (L := [some (rurf E 70), some (.int x1), none, none, none]) (by decide) rfl (Nat.le_of_ble_eq_true rfl) rfl ?_
  unfold fX4_both at h
  refine ru_aload_n ddX4_both_0 rfl ?_
  refine ru_iload_n ddX4_both_1 rfl ?_
  obtain ⟨v1, A2, hv, h⟩ := ruB2_inv h
  refine ru_callVi (as := [.int x1]) (st := []) ddX4_both_2 cvX4_73 rfl (hgX4_denied x1 A _ _ hv) rfl hd (Nat.le_of_ble_eq_true rfl) ?_
  clear hv
  refine ru_istore_n ddX4_both_5 (by decide) rfl rfl ?_
  refine ru_iconst (0 : Int32) ddX4_both_6 rfl ?_
  refine ru_istore_n ddX4_both_7 (by decide) rfl rfl ?_
  exact wX4_both_l8 hgX4_denied hdg hd x1 (fun v7 A8 h => by
        refine ru_iload_n ddX4_both_55 rfl ?_
        exact ru_iretW ddX4_both_56 rfl h) ruF v1 (0 : Int32) A2 h
theorem wX4_either_l8 {E : ruE} {d : Nat} {dg : Nat} {gX4_both : Int32 → ruA → Option (Int32 × ruA)} (hgX4_both : ∀ (y0 : Int32) (A : ruA) (r : Int32) (B : ruA), gX4_both y0 A = some (r, B) → ruC E mmX4_both dg [rurf E 70, .int y0] A (ruPr r B)) (hdg : 19 ≤ dg) (hd : dg + 1 ≤ d) {β : Type} {Q : Option Value → ruA → Prop} {res : β} (x1 : Int32) {k55 : Int32 → ruA → Option (β)} (hk55 : ∀ (x2 : Int32) (A : ruA), k55 x2 A = some res → ruW E mmX4_either d Q 55 [none, none, some (.int x2), none, none] [] A) : ∀ (n : Nat) (x2 : Int32) (x3 : Int32) (A : ruA), fX4_either_l8 gX4_both x1 k55 n x2 x3 A = some res → ruW E mmX4_either d Q 8 [some (rurf E 70), some (.int x1), some (.int x2), some (.int x3), none] [] A := by
  intro n
  induction n with
  | zero =>
    intro x2 x3 A h
    exact absurd h (by rw [fX4_either_l8]; exact fun h => nomatch h)
  | succ n ih =>
    intro x2 x3 A h
    rw [fX4_either_l8] at h
    refine ru_iload_n ddX4_either_8 rfl ?_
    refine ru_bipush (100 : Int32) ddX4_either_9 rfl ?_
    refine ru_icmp_ge 55 ddX4_either_11 (by decide) (fun hc => ?_) (fun hc => ?_)
    · rw [if_pos hc] at h
      refine ru_wk (L2 := [none, none, some (.int x2), none, none]) ⟨rfl, trivial⟩ ?_
      exact hk55 x2 A h
    · rw [if_neg hc] at h
      refine ru_aload_n ddX4_either_14 rfl ?_
      refine ru_getI ddX4_either_15 flX4_42 rfl ?_
      refine ru_bipush (124 : Int32) ddX4_either_18 rfl ?_
      refine ru_icmp_ne 55 ddX4_either_20 (by decide) (fun hc => ?_) (fun hc => ?_)
      · rw [if_neg hc] at h
        refine ru_wk (L2 := [none, none, some (.int x2), none, none]) ⟨rfl, trivial⟩ ?_
        exact hk55 x2 A h
      · rw [if_pos hc] at h
        refine ru_aload_n ddX4_either_23 rfl ?_
        obtain ⟨A3, hv, h⟩ := ruB_inv h
        refine ru_callVv (as := []) (st := []) ddX4_either_24 cvX4_35 rfl (wX4_step 3 (Nat.le_refl _) A hv) rfl (by omega) (Nat.le_of_ble_eq_true rfl) ?_
        clear hv
        refine ru_aload_n ddX4_either_27 rfl ?_
        refine ru_iload_n ddX4_either_28 rfl ?_
        obtain ⟨v4, A5, hv, h⟩ := ruB2_inv h
        refine ru_callVi (as := [.int x1]) (st := []) ddX4_either_29 cvX4_70 rfl (hgX4_both x1 A3 _ _ hv) rfl hd (Nat.le_of_ble_eq_true rfl) ?_
        clear hv
        refine ru_istore ddX4_either_32 (by decide) rfl rfl ?_
        refine ru_iload_n ddX4_either_34 rfl ?_
        obtain ⟨v6, hq, h⟩ := ruB_inv h
        have J : ruW E mmX4_either d Q 48 [some (rurf E 70), some (.int x1), none, some (.int x3), none] [.int v6] A5 := by
            refine ru_istore_n ddX4_either_48 (by decide) rfl rfl ?_
            refine ru_iinc (x3 + (1 : Int32)) ddX4_either_49 (by decide) rfl rfl rfl rfl ?_
            refine ru_goto 8 ddX4_either_52 (by decide) ?_
            exact ih v6 (x3 + (1 : Int32)) A5 h
        replace h := hq
        clear hq
        refine ru_if_ne 43 ddX4_either_35 (by decide) (fun hc => ?_) (fun hc => ?_)
        · rw [if_neg hc] at h
          refine ru_iconst (1 : Int32) ddX4_either_43 rfl ?_
          refine ru_goto 48 ddX4_either_44 (by decide) ?_
          refine ru_wk (L2 := [some (rurf E 70), some (.int x1), none, some (.int x3), none]) ⟨rfl, rfl, rfl, trivial⟩ ?_
          obtain rfl := ruS1 h
          exact J
        · rw [if_pos hc] at h
          refine ru_iload ddX4_either_38 rfl ?_
          refine ru_if_eq 47 ddX4_either_40 (by decide) (fun hc => ?_) (fun hc => ?_)
          · rw [if_pos hc] at h
            refine ru_iconst (0 : Int32) ddX4_either_47 rfl ?_
            refine ru_wk (L2 := [some (rurf E 70), some (.int x1), none, some (.int x3), none]) ⟨rfl, rfl, rfl, trivial⟩ ?_
            obtain rfl := ruS1 h
            exact J
          · rw [if_neg hc] at h
            refine ru_iconst (1 : Int32) ddX4_either_43 rfl ?_
            refine ru_goto 48 ddX4_either_44 (by decide) ?_
            refine ru_wk (L2 := [some (rurf E 70), some (.int x1), none, some (.int x3), none]) ⟨rfl, rfl, rfl, trivial⟩ ?_
            obtain rfl := ruS1 h
            exact J
theorem wX4_either {E : ruE} (d : Nat) {dg : Nat} {gX4_both : Int32 → ruA → Option (Int32 × ruA)} (hgX4_both : ∀ (y0 : Int32) (A : ruA) (r : Int32) (B : ruA), gX4_both y0 A = some (r, B) → ruC E mmX4_both dg [rurf E 70, .int y0] A (ruPr r B)) (hdg : 19 ≤ dg) (hd : dg + 1 ≤ d) (x1 : Int32) (A : ruA) {r : Int32} {B : ruA} (h : fX4_either gX4_both x1 A = some (r, B)) : ruC E mmX4_either d [rurf E 70, .int x1] A (ruPr r B) := by
  refine ruC.of (L := [some (rurf E 70), some (.int x1), none, none, none]) (by decide) rfl (Nat.le_of_ble_eq_true rfl) rfl ?_
  unfold fX4_either at h
  refine ru_aload_n ddX4_either_0 rfl ?_
  refine ru_iload_n ddX4_either_1 rfl ?_
  obtain ⟨v1, A2, hv, h⟩ := ruB2_inv h
  refine ru_callVi (as := [.int x1]) (st := []) ddX4_either_2 cvX4_70 rfl (hgX4_both x1 A _ _ hv) rfl hd (Nat.le_of_ble_eq_true rfl) ?_
  clear hv
  refine ru_istore_n ddX4_either_5 (by decide) rfl rfl ?_
  refine ru_iconst (0 : Int32) ddX4_either_6 rfl ?_
  refine ru_istore_n ddX4_either_7 (by decide) rfl rfl ?_
  exact wX4_either_l8 hgX4_both hdg hd x1 (fun v7 A8 h => by
        refine ru_iload_n ddX4_either_55 rfl ?_
        exact ru_iretW ddX4_either_56 rfl h) ruF v1 (0 : Int32) A2 h
theorem wX4_deniedK {E : ruE} {e : Int32 → ruA → Option (Int32 × ruA)} {dg : Nat} (hdg : 19 ≤ dg) (he : ∀ (y : Int32) (A : ruA) (r : Int32) (B : ruA), e y A = some (r, B) → ruC E mmX4_either dg [rurf E 70, .int y] A (ruPr r B)) : ∀ (n : Nat) (y : Int32) (A : ruA) (r : Int32) (B : ruA), fX4_deniedK e n y A = some (r, B) → ruC E mmX4_denied (dg + 4 + n) [rurf E 70, .int y] A (ruPr r B) := by
  intro n
  induction n with
  | zero =>
    intro y A r B h
    exact absurd h (by rw [fX4_deniedK]; exact fun h => nomatch h)
  | succ n ih =>
    intro y A r B h
    rw [fX4_deniedK] at h
    exact wX4_denied (dg + 4 + (n + 1)) (dg := dg + 4 + n) ih (fun y A r B h => wX4_compared (dg + 4 + n) (dg := dg + 2) (fun y A r B h => wX4_sum (dg + 2) (dg := dg + 1) (fun y A r B h => wX4_part (dg + 1) (dg := dg) he hdg (Nat.le_refl _) y A h) (by omega) (Nat.le_refl _) y A h) (by omega) (by omega) y A h) (by omega) (by omega) y A h
theorem wX4_eitherK {E : ruE} : ∀ (n : Nat) (y : Int32) (A : ruA) (r : Int32) (B : ruA), fX4_eitherK n y A = some (r, B) → ruC E mmX4_either (19 + 17 * n) [rurf E 70, .int y] A (ruPr r B) := by
  intro n
  induction n with
  | zero =>
    intro y A r B h
    exact absurd h (by rw [fX4_eitherK]; exact fun h => nomatch h)
  | succ n ih =>
    intro y A r B h
    rw [fX4_eitherK] at h
    exact wX4_either (19 + 17 * (n + 1)) (dg := 19 + 17 * n + 15) (fun y A r B h => wX4_both (19 + 17 * n + 15) (dg := 19 + 17 * n + 14) (fun y A r B h => wX4_deniedK (by omega) ih 10 y A r B h) (by omega) (by omega) y A h) (by omega) (by omega) y A h
theorem wX4_eitherT {E : ruE} (d : Nat) (hd : 189 ≤ d) (x1 : Int32) (A : ruA) {r : Int32} {B : ruA} (h : fX4_eitherT x1 A = some (r, B)) : ruC E mmX4_either 189 [rurf E 70, .int x1] A (ruPr r B) := wX4_eitherK 10 x1 A r B h
theorem wX4_worthOf {E : ruE} (d : Nat) (hd : 190 ≤ d) (x1 : Nat) (x2 : Int32) (x3 : Nat) (A : ruA) {r : Int32} {B : ruA} (h : fX4_worthOf x1 x2 x3 A = some (r, B)) : ruC E mmX4_worthOf d [rurf E 70, rurf E x1, .int x2, rurf E x3] A (ruPr r B) := by
  refine ruC.of (L := [some (rurf E 70), some (rurf E x1), some (.int x2), some (rurf E x3), none]) (by decide) rfl (Nat.le_of_ble_eq_true rfl) rfl ?_
  unfold fX4_worthOf at h
  refine ru_aload_n ddX4_worthOf_0 rfl ?_
  refine ru_aload_n ddX4_worthOf_1 rfl ?_
  obtain ⟨A1, hv, h⟩ := ruB_inv h
  refine ru_putT2 ddX4_worthOf_2 flX4_15 fp4_0 hv ?_
  clear hv
  refine ru_aload_n ddX4_worthOf_5 rfl ?_
  refine ru_iload_n ddX4_worthOf_6 rfl ?_
  obtain ⟨A2, hv, h⟩ := ruB_inv h
  refine ru_putI2 ddX4_worthOf_7 flX4_29 fp4_1 rfl hv ?_
  clear hv
  refine ru_aload_n ddX4_worthOf_10 rfl ?_
  refine ru_aload_n ddX4_worthOf_11 rfl ?_
  obtain ⟨A3, hv, h⟩ := ruB_inv h
  refine ru_putM2 ddX4_worthOf_12 flX4_18 fp4_7 hv ?_
  clear hv
  refine ru_aload_n ddX4_worthOf_15 rfl ?_
  refine ru_iconst (0 : Int32) ddX4_worthOf_16 rfl ?_
  obtain ⟨A4, hv, h⟩ := ruB_inv h
  refine ru_putI2 ddX4_worthOf_17 flX4_32 fp4_2 rfl hv ?_
  clear hv
  refine ru_aload_n ddX4_worthOf_20 rfl ?_
  refine ru_iconst (-1 : Int32) ddX4_worthOf_21 rfl ?_
  obtain ⟨A5, hv, h⟩ := ruB_inv h
  refine ru_putI2 ddX4_worthOf_22 flX4_25 fp4_6 rfl hv ?_
  clear hv
  refine ru_aload_n ddX4_worthOf_25 rfl ?_
  obtain ⟨A6, hv, h⟩ := ruB_inv h
  refine ru_callVv (as := []) (st := []) ddX4_worthOf_26 cvX4_35 rfl (wX4_step 3 (Nat.le_refl _) A5 hv) rfl (Nat.le_trans (m := 190) (by decide) hd) (Nat.le_of_ble_eq_true rfl) ?_
  clear hv
  refine ru_aload_n ddX4_worthOf_29 rfl ?_
  refine ru_iconst (0 : Int32) ddX4_worthOf_30 rfl ?_
  obtain ⟨v7, A8, hv, h⟩ := ruB2_inv h
  refine ru_callVi (as := [.int (0 : Int32)]) (st := []) ddX4_worthOf_31 cvX4_38 rfl (wX4_eitherT 189 (Nat.le_refl _) (0 : Int32) A6 hv) rfl (Nat.le_trans (m := 190) (by decide) hd) (Nat.le_of_ble_eq_true rfl) ?_
  clear hv
  refine ru_istore ddX4_worthOf_34 (by decide) rfl rfl ?_
  refine ru_aload_n ddX4_worthOf_36 rfl ?_
  refine ru_getI ddX4_worthOf_37 flX4_42 rfl ?_
  refine ru_sipush (257 : Int32) ddX4_worthOf_40 rfl ?_
  obtain ⟨A9, hq, h⟩ := ruB_inv h
  have J : ruW E mmX4_worthOf d (ruPr r B) 50 [none, none, none, none, some (.int v7)] [] A9 := by
      refine ru_iload ddX4_worthOf_50 rfl ?_
      exact ru_iretW ddX4_worthOf_52 rfl h
  replace h := hq
  clear hq
  refine ru_icmp_eq 50 ddX4_worthOf_43 (by decide) (fun hc => ?_) (fun hc => ?_)
  · rw [if_pos hc] at h
    refine ru_wk (L2 := [none, none, none, none, some (.int v7)]) ⟨rfl, trivial⟩ ?_
    obtain rfl := ruS1 h
    exact J
  · rw [if_neg hc] at h
    refine ru_aload_n ddX4_worthOf_46 rfl ?_
    obtain ⟨A10, hv, h⟩ := ruB_inv h
    refine ru_callVv (as := []) (st := []) ddX4_worthOf_47 cvX4_45 rfl (wX4_fail 1 (Nat.le_refl _) A8 hv) rfl (Nat.le_trans (m := 190) (by decide) hd) (Nat.le_of_ble_eq_true rfl) ?_
    clear hv
    refine ru_wk (L2 := [none, none, none, none, some (.int v7)]) ⟨rfl, trivial⟩ ?_
    obtain rfl := ruS1 h
    exact J
theorem wX4_faultOf {E : ruE} (d : Nat) (hd : 191 ≤ d) (x2 : Int32) (A : ruA) {r : Int32} {B : ruA} (h : fX4_faultOf x2 A = some (r, B)) : ruC E mmX4_faultOf d [rurf E 70, rurf E 72, .int x2] A (ruPr r B) := by
  refine ruC.of (L := [some (rurf E 70), some (rurf E 72), some (.int x2)]) (by decide) rfl (Nat.le_of_ble_eq_true rfl) rfl ?_
  unfold fX4_faultOf at h
  refine ru_aload_n ddX4_faultOf_0 rfl ?_
  refine ru_aload_n ddX4_faultOf_1 rfl ?_
  refine ru_iload_n ddX4_faultOf_2 rfl ?_
  refine ru_aload_n ddX4_faultOf_3 rfl ?_
  refine ru_getR (r := 71) ddX4_faultOf_4 flX4_9 rfl rfl ?_
  obtain ⟨v1, A2, hv, h⟩ := ruB2_inv h
  refine ru_callVi (as := [rurf E 72, .int x2, rurf E 71]) (st := []) ddX4_faultOf_7 cvX4_21 rfl (wX4_worthOf 190 (Nat.le_refl _) 72 x2 71 A hv) rfl (Nat.le_trans (m := 191) (by decide) hd) (Nat.le_of_ble_eq_true rfl) ?_
  clear hv
  refine ru_pop ddX4_faultOf_10 rfl ?_
  refine ru_aload_n ddX4_faultOf_11 rfl ?_
  refine ru_getI ddX4_faultOf_12 flX4_25 rfl ?_
  exact ru_iretW ddX4_faultOf_15 rfl h
theorem wX9_taken {E : ruE} (d : Nat) (hd : 1 ≤ d) (x2 : Int32) (A : ruA) {r : Int32} {B : ruA} (h : fX9_taken x2 A = some (r, B)) : ruC E mmX9_taken d [rurf E 14, rurf E 72, .int x2] A (ruPr r B) := by
  refine ruC.of (L := [some (rurf E 14), some (rurf E 72), some (.int x2), none]) (by decide) rfl (Nat.le_of_ble_eq_true rfl) rfl ?_
  unfold fX9_taken at h
  refine ru_aload_n ddX9_taken_0 rfl ?_
  refine ru_getI ddX9_taken_1 flX9_20 rfl ?_
  refine ru_istore_n ddX9_taken_4 (by decide) rfl rfl ?_
  refine ru_aload_n ddX9_taken_5 rfl ?_
  refine ru_iconst (0 : Int32) ddX9_taken_6 rfl ?_
  refine ru_aload_n ddX9_taken_7 rfl ?_
  refine ru_getR (r := 15) ddX9_taken_8 flX9_11 rfl rfl ?_
  refine ru_iload_n ddX9_taken_11 rfl ?_
  obtain ⟨c1, hv, h⟩ := ruB_inv h
  refine ru_aald4 ddX9_taken_12 rfl hv ?_
  clear hv
  refine ru_iconst (0 : Int32) ddX9_taken_13 rfl ?_
  refine ru_iload_n ddX9_taken_14 rfl ?_
  obtain ⟨n2, hn2, h⟩ := ruB_inv h
  obtain ⟨A3, hv, h⟩ := ruB_inv h
  refine ru_acopy ddX9_taken_15 caX9_24 (Nat.le_trans (m := 1) (by decide) hd) rfl (rudI_eq hn2) (Nat.le_of_ble_eq_true rfl) hv ?_
  clear hv
  refine ru_aload_n ddX9_taken_18 rfl ?_
  refine ru_getR (r := 22) ddX9_taken_19 flX9_16 rfl rfl ?_
  refine ru_iload_n ddX9_taken_22 rfl ?_
  refine ru_iload_n ddX9_taken_23 rfl ?_
  obtain ⟨A4, hv, h⟩ := ruB_inv h
  refine ru_iast ddX9_taken_24 rfl hv ?_
  clear hv
  refine ru_aload_n ddX9_taken_25 rfl ?_
  refine ru_dup ddX9_taken_26 rfl ?_
  refine ru_getI ddX9_taken_27 flX9_20 rfl ?_
  refine ru_iconst (1 : Int32) ddX9_taken_30 rfl ?_
  refine ru_iadd ddX9_taken_31 ?_
  obtain ⟨A5, hv, h⟩ := ruB_inv h
  refine ru_putI2 ddX9_taken_32 flX9_20 fp9_0 rfl hv ?_
  clear hv
  refine ru_iload_n ddX9_taken_35 rfl ?_
  exact ru_iretW ddX9_taken_36 rfl h
theorem wX10_way {E : ruE} (d : Nat) (hd : 192 ≤ d) (A : ruA) {r : Int32} {B : ruA} (h : fX10_way A = some (r, B)) : ruC E mmX10_way d [rurf E 0] A (ruPr r B) := by
  refine ruC.of (L := [some (rurf E 0), none, none]) (by decide) rfl (Nat.le_of_ble_eq_true rfl) rfl ?_
  unfold fX10_way at h
  refine ru_aload_n ddX10_way_0 rfl ?_
  refine ru_getR (r := 1) ddX10_way_1 flX10_12 rfl rfl ?_
  refine ru_getR (r := 14) ddX10_way_4 flX10_280 rfl rfl ?_
  refine ru_getI ddX10_way_7 flX10_284 rfl ?_
  refine ru_bipush (6 : Int32) ddX10_way_10 rfl ?_
  refine ru_icmp_lt 22 ddX10_way_12 (by decide) (fun hc => ?_) (fun hc => ?_)
  · rw [if_pos hc] at h
    refine ru_aload_n ddX10_way_22 rfl ?_
    refine ru_getI ddX10_way_23 flX10_56 rfl ?_
    refine ru_istore_n ddX10_way_26 (by decide) rfl rfl ?_
    refine ru_aload_n ddX10_way_27 rfl ?_
    refine ru_iconst (0 : Int32) ddX10_way_28 rfl ?_
    obtain ⟨A1, hv, h⟩ := ruB_inv h
    refine ru_putI2 ddX10_way_29 flX10_56 fp10_9 rfl hv ?_
    clear hv
    refine ru_aload_n ddX10_way_32 rfl ?_
    refine ru_getR (r := 70) ddX10_way_33 flX10_49 rfl rfl ?_
    refine ru_aload_n ddX10_way_36 rfl ?_
    refine ru_getR (r := 72) ddX10_way_37 flX10_53 rfl rfl ?_
    refine ru_iload_n ddX10_way_40 rfl ?_
    obtain ⟨v2, A3, hv, h⟩ := ruB2_inv h
    refine ru_callVi (as := [rurf E 72, .int (A.1 0 9)]) (st := []) ddX10_way_41 cvX10_287 rfl (wX4_faultOf 191 (Nat.le_refl _) (A.1 0 9) A1 hv) rfl (Nat.le_trans (m := 192) (by decide) hd) (Nat.le_of_ble_eq_true rfl) ?_
    clear hv
    refine ru_istore_n ddX10_way_44 (by decide) rfl rfl ?_
    refine ru_iload_n ddX10_way_45 rfl ?_
    refine ru_if_lt 53 ddX10_way_46 (by decide) (fun hc => ?_) (fun hc => ?_)
    · rw [if_pos hc] at h
      refine ru_aload_n ddX10_way_53 rfl ?_
      refine ru_getR (r := 1) ddX10_way_54 flX10_12 rfl rfl ?_
      refine ru_getR (r := 14) ddX10_way_57 flX10_280 rfl rfl ?_
      refine ru_aload_n ddX10_way_60 rfl ?_
      refine ru_getR (r := 72) ddX10_way_61 flX10_53 rfl rfl ?_
      refine ru_iload_n ddX10_way_64 rfl ?_
      obtain ⟨v4, A5, hv, h⟩ := ruB2_inv h
      refine ru_callVi (as := [rurf E 72, .int (A.1 0 9)]) (st := []) ddX10_way_65 cvX10_291 rfl (wX9_taken 1 (Nat.le_refl _) (A.1 0 9) A3 hv) rfl (Nat.le_trans (m := 192) (by decide) hd) (Nat.le_of_ble_eq_true rfl) ?_
      clear hv
      exact ru_iretW ddX10_way_68 rfl h
    · rw [if_neg hc] at h
      refine ru_iconst (-1 : Int32) ddX10_way_49 rfl ?_
      refine ru_iload_n ddX10_way_50 rfl ?_
      refine ru_isub ddX10_way_51 ?_
      exact ru_iretW ddX10_way_52 rfl h
  · rw [if_neg hc] at h
    refine ru_aload_n ddX10_way_15 rfl ?_
    refine ru_ldc (v := (-1000002 : Int32)) ddX10_way_16 ckX10_97 ?_
    obtain ⟨v6, A7, hv, h⟩ := ruB2_inv h
    refine ru_callVi (as := [.int (-1000002 : Int32)]) (st := []) ddX10_way_18 cvX10_82 rfl (wX10_finding 2 (Nat.le_refl _) (-1000002 : Int32) A hv) rfl (Nat.le_trans (m := 192) (by decide) hd) (Nat.le_of_ble_eq_true rfl) ?_
    clear hv
    exact ru_iretW ddX10_way_21 rfl h
theorem wX10_isWay {E : ruE} (d : Nat) (hd : 2 ≤ d) (x1 : Int32) (A : ruA) {r : Int32} (h : fX10_isWay x1 A = some r) : ruC E mmX10_isWay d [rurf E 0, .int x1] A (ruPr r A) := by
  refine ruC.of (L := [some (rurf E 0), some (.int x1)]) (by decide) rfl (Nat.le_of_ble_eq_true rfl) rfl ?_
  unfold fX10_isWay at h
  refine ru_iload_n ddX10_isWay_0 rfl ?_
  refine ru_iconst (0 : Int32) ddX10_isWay_1 rfl ?_
  refine ru_aload_n ddX10_isWay_2 rfl ?_
  refine ru_getR (r := 1) ddX10_isWay_3 flX10_12 rfl rfl ?_
  refine ru_getR (r := 14) ddX10_isWay_6 flX10_280 rfl rfl ?_
  refine ru_getI ddX10_isWay_9 flX10_284 rfl ?_
  refine ru_iconst (1 : Int32) ddX10_isWay_12 rfl ?_
  refine ru_isub ddX10_isWay_13 ?_
  obtain ⟨v1, hv, h⟩ := ruB_inv h
  refine ru_callSi (as := [.int x1, .int (0 : Int32), .int ((A.1 14 0) - (1 : Int32))]) (st := []) ddX10_isWay_14 csX10_77 (wX10_isWithin 1 (Nat.le_refl _) x1 (0 : Int32) ((A.1 14 0) - (1 : Int32)) A hv) rfl (Nat.le_trans (m := 2) (by decide) hd) (Nat.le_of_ble_eq_true rfl) ?_
  clear hv
  obtain ⟨_, hz, h⟩ := ruB_inv h
  exact ru_zretP ddX10_isWay_17 rfl (rubz_eq hz) h
theorem wX10_comesTo_l3 {E : ruE} {d : Nat} (hd : 191 ≤ d) {β : Type} {Q : Option Value → ruA → Prop} {res : β} (x1 : Int32) (x2 : Int32) (x3 : Int32) {k34 : ruA → Option (β)} (hk34 : ∀ (A : ruA), k34 A = some res → ruW E mmX10_comesTo d Q 34 [some (rurf E 0), some (.int x1), none, none, none] [] A) : ∀ (n : Nat) (x4 : Int32) (A : ruA), fX10_comesTo_l3 x1 x2 x3 k34 n x4 A = some res → ruW E mmX10_comesTo d Q 3 [some (rurf E 0), some (.int x1), some (.int x2), some (.int x3), some (.int x4)] [] A := by
  intro n
  induction n with
  | zero =>
    intro x4 A h
    exact absurd h (by rw [fX10_comesTo_l3]; exact fun h => nomatch h)
  | succ n ih =>
    intro x4 A h
    rw [fX10_comesTo_l3] at h
    refine ru_iload ddX10_comesTo_3 rfl ?_
    refine ru_bipush (6 : Int32) ddX10_comesTo_5 rfl ?_
    refine ru_icmp_ge 34 ddX10_comesTo_7 (by decide) (fun hc => ?_) (fun hc => ?_)
    · rw [if_pos hc] at h
      refine ru_wk (L2 := [some (rurf E 0), some (.int x1), none, none, none]) ⟨rfl, rfl, trivial⟩ ?_
      exact hk34 A h
    · rw [if_neg hc] at h
      refine ru_aload_n ddX10_comesTo_10 rfl ?_
      refine ru_getR (r := 69) ddX10_comesTo_11 flX10_42 rfl rfl ?_
      refine ru_iload ddX10_comesTo_14 rfl ?_
      refine ru_aload_n ddX10_comesTo_16 rfl ?_
      refine ru_getR (r := 63) ddX10_comesTo_17 flX10_38 rfl rfl ?_
      refine ru_iload ddX10_comesTo_20 rfl ?_
      refine ru_iload_n ddX10_comesTo_22 rfl ?_
      refine ru_iload_n ddX10_comesTo_23 rfl ?_
      obtain ⟨v1, A2, hv, h⟩ := ruB2_inv h
      refine ru_callVi (as := [.int x4, .int x2, .int x3]) (st := [.int x4, rurf E 69]) ddX10_comesTo_24 cvX10_241 rfl (wX3_of 5 (Nat.le_refl _) x4 x2 x3 A hv) rfl (Nat.le_trans (m := 191) (by decide) hd) (Nat.le_of_ble_eq_true rfl) ?_
      clear hv
      obtain ⟨A3, hv, h⟩ := ruB_inv h
      refine ru_iast ddX10_comesTo_27 rfl hv ?_
      clear hv
      refine ru_iinc (x4 + (1 : Int32)) ddX10_comesTo_28 (by decide) rfl rfl rfl rfl ?_
      refine ru_goto 3 ddX10_comesTo_31 (by decide) ?_
      exact ih (x4 + (1 : Int32)) A3 h
theorem wX10_comesTo {E : ruE} (d : Nat) (hd : 191 ≤ d) (x1 : Int32) (x2 : Int32) (x3 : Int32) (A : ruA) {r : Int32} {B : ruA} (h : fX10_comesTo x1 x2 x3 A = some (r, B)) : ruC E mmX10_comesTo d [rurf E 0, .int x1, .int x2, .int x3] A (ruPr r B) := by
  refine ruC.of (L := [some (rurf E 0), some (.int x1), some (.int x2), some (.int x3), none]) (by decide) rfl (Nat.le_of_ble_eq_true rfl) rfl ?_
  unfold fX10_comesTo at h
  refine ru_iconst (0 : Int32) ddX10_comesTo_0 rfl ?_
  refine ru_istore ddX10_comesTo_1 (by decide) rfl rfl ?_
  exact wX10_comesTo_l3 hd x1 x2 x3 (fun A4 h => by
        refine ru_aload_n ddX10_comesTo_34 rfl ?_
        refine ru_getR (r := 70) ddX10_comesTo_35 flX10_49 rfl rfl ?_
        refine ru_aload_n ddX10_comesTo_38 rfl ?_
        refine ru_getR (r := 1) ddX10_comesTo_39 flX10_12 rfl rfl ?_
        refine ru_getR (r := 14) ddX10_comesTo_42 flX10_280 rfl rfl ?_
        refine ru_getR (r := 15) ddX10_comesTo_45 flX10_388 rfl rfl ?_
        refine ru_iload_n ddX10_comesTo_48 rfl ?_
        obtain ⟨c5, hv, h⟩ := ruB_inv h
        refine ru_aald4 ddX10_comesTo_49 rfl hv ?_
        clear hv
        refine ru_aload_n ddX10_comesTo_50 rfl ?_
        refine ru_getR (r := 1) ddX10_comesTo_51 flX10_12 rfl rfl ?_
        refine ru_getR (r := 14) ddX10_comesTo_54 flX10_280 rfl rfl ?_
        refine ru_getR (r := 22) ddX10_comesTo_57 flX10_392 rfl rfl ?_
        refine ru_iload_n ddX10_comesTo_60 rfl ?_
        obtain ⟨v6, hv, h⟩ := ruB_inv h
        refine ru_iald ddX10_comesTo_61 rfl hv ?_
        clear hv
        refine ru_aload_n ddX10_comesTo_62 rfl ?_
        refine ru_getR (r := 69) ddX10_comesTo_63 flX10_42 rfl rfl ?_
        obtain ⟨v7, A8, hv, h⟩ := ruB2_inv h
        refine ru_callVi (as := [rurf E c5, .int v6, rurf E 69]) (st := []) ddX10_comesTo_66 cvX10_395 rfl (wX4_worthOf 190 (Nat.le_refl _) c5 v6 69 A4 hv) rfl (Nat.le_trans (m := 191) (by decide) hd) (Nat.le_of_ble_eq_true rfl) ?_
        clear hv
        exact ru_iretW ddX10_comesTo_69 rfl h) ruF (0 : Int32) A h
theorem wX10_says {E : ruE} (d : Nat) (hd : 192 ≤ d) (x1 : Int32) (x2 : Int32) (x3 : Int32) (A : ruA) {r : Int32} {B : ruA} (h : fX10_says x1 x2 x3 A = some (r, B)) : ruC E mmX10_says d [rurf E 0, .int x1, .int x2, .int x3] A (ruPr r B) := by
  refine ruC.of (L := [some (rurf E 0), some (.int x1), some (.int x2), some (.int x3)]) (by decide) rfl (Nat.le_of_ble_eq_true rfl) rfl ?_
  unfold fX10_says at h
  refine ru_aload_n ddX10_says_0 rfl ?_
  refine ru_iload_n ddX10_says_1 rfl ?_
  obtain ⟨v1, hv, h⟩ := ruB_inv h
  refine ru_callVi (as := [.int x1]) (st := []) ddX10_says_2 cvX10_294 rfl (wX10_isWay 2 (Nat.le_refl _) x1 A hv) rfl (Nat.le_trans (m := 192) (by decide) hd) (Nat.le_of_ble_eq_true rfl) ?_
  clear hv
  refine ru_if_eq 23 ddX10_says_5 (by decide) (fun hc => ?_) (fun hc => ?_)
  · rw [if_pos hc] at h
    refine ru_aload_n ddX10_says_23 rfl ?_
    refine ru_ldc (v := (-1000001 : Int32)) ddX10_says_24 ckX10_81 ?_
    obtain ⟨v2, A3, hv, h⟩ := ruB2_inv h
    refine ru_callVi (as := [.int (-1000001 : Int32)]) (st := []) ddX10_says_26 cvX10_82 rfl (wX10_finding 2 (Nat.le_refl _) (-1000001 : Int32) A hv) rfl (Nat.le_trans (m := 192) (by decide) hd) (Nat.le_of_ble_eq_true rfl) ?_
    clear hv
    exact ru_iretW ddX10_says_29 rfl h
  · rw [if_neg hc] at h
    refine ru_aload_n ddX10_says_8 rfl ?_
    refine ru_iload_n ddX10_says_9 rfl ?_
    obtain ⟨v4, hv, h⟩ := ruB_inv h
    refine ru_callVi (as := [.int x2]) (st := []) ddX10_says_10 cvX10_98 rfl (wX10_isRoom 2 (Nat.le_refl _) x2 A hv) rfl (Nat.le_trans (m := 192) (by decide) hd) (Nat.le_of_ble_eq_true rfl) ?_
    clear hv
    refine ru_if_eq 23 ddX10_says_13 (by decide) (fun hc => ?_) (fun hc => ?_)
    · rw [if_pos hc] at h
      refine ru_aload_n ddX10_says_23 rfl ?_
      refine ru_ldc (v := (-1000001 : Int32)) ddX10_says_24 ckX10_81 ?_
      obtain ⟨v5, A6, hv, h⟩ := ruB2_inv h
      refine ru_callVi (as := [.int (-1000001 : Int32)]) (st := []) ddX10_says_26 cvX10_82 rfl (wX10_finding 2 (Nat.le_refl _) (-1000001 : Int32) A hv) rfl (Nat.le_trans (m := 192) (by decide) hd) (Nat.le_of_ble_eq_true rfl) ?_
      clear hv
      exact ru_iretW ddX10_says_29 rfl h
    · rw [if_neg hc] at h
      refine ru_iload_n ddX10_says_16 rfl ?_
      obtain ⟨v7, hv, h⟩ := ruB_inv h
      refine ru_callSi (as := [.int x3]) (st := []) ddX10_says_17 csX10_203 (wX10_isYear 2 (Nat.le_refl _) x3 A hv) rfl (Nat.le_trans (m := 192) (by decide) hd) (Nat.le_of_ble_eq_true rfl) ?_
      clear hv
      refine ru_if_ne 30 ddX10_says_20 (by decide) (fun hc => ?_) (fun hc => ?_)
      · rw [if_neg hc] at h
        refine ru_aload_n ddX10_says_30 rfl ?_
        refine ru_getR (r := 63) ddX10_says_31 flX10_38 rfl rfl ?_
        refine ru_iload_n ddX10_says_34 rfl ?_
        refine ru_iload_n ddX10_says_35 rfl ?_
        obtain ⟨v8, hv, h⟩ := ruB_inv h
        refine ru_callVi (as := [.int x2, .int x3]) (st := []) ddX10_says_36 cvX10_238 rfl (wX3_hasSheets 2 (Nat.le_refl _) x2 x3 A hv) rfl (Nat.le_trans (m := 192) (by decide) hd) (Nat.le_of_ble_eq_true rfl) ?_
        clear hv
        refine ru_if_ne 49 ddX10_says_39 (by decide) (fun hc => ?_) (fun hc => ?_)
        · rw [if_neg hc] at h
          refine ru_aload_n ddX10_says_49 rfl ?_
          refine ru_iload_n ddX10_says_50 rfl ?_
          refine ru_iload_n ddX10_says_51 rfl ?_
          refine ru_iload_n ddX10_says_52 rfl ?_
          obtain ⟨v9, A10, hv, h⟩ := ruB2_inv h
          refine ru_callVi (as := [.int x1, .int x2, .int x3]) (st := []) ddX10_says_53 cvX10_297 rfl (wX10_comesTo 191 (Nat.le_refl _) x1 x2 x3 A hv) rfl (Nat.le_trans (m := 192) (by decide) hd) (Nat.le_of_ble_eq_true rfl) ?_
          clear hv
          exact ru_iretW ddX10_says_56 rfl h
        · rw [if_pos hc] at h
          refine ru_aload_n ddX10_says_42 rfl ?_
          refine ru_ldc (v := (-1000004 : Int32)) ddX10_says_43 ckX10_202 ?_
          obtain ⟨v11, A12, hv, h⟩ := ruB2_inv h
          refine ru_callVi (as := [.int (-1000004 : Int32)]) (st := []) ddX10_says_45 cvX10_82 rfl (wX10_finding 2 (Nat.le_refl _) (-1000004 : Int32) A hv) rfl (Nat.le_trans (m := 192) (by decide) hd) (Nat.le_of_ble_eq_true rfl) ?_
          clear hv
          exact ru_iretW ddX10_says_48 rfl h
      · rw [if_pos hc] at h
        refine ru_aload_n ddX10_says_23 rfl ?_
        refine ru_ldc (v := (-1000001 : Int32)) ddX10_says_24 ckX10_81 ?_
        obtain ⟨v13, A14, hv, h⟩ := ruB2_inv h
        refine ru_callVi (as := [.int (-1000001 : Int32)]) (st := []) ddX10_says_26 cvX10_82 rfl (wX10_finding 2 (Nat.le_refl _) (-1000001 : Int32) A hv) rfl (Nat.le_trans (m := 192) (by decide) hd) (Nat.le_of_ble_eq_true rfl) ?_
        clear hv
        exact ru_iretW ddX10_says_29 rfl h
theorem wX10_flaggedBy_l5 {E : ruE} {d : Nat} (hd : 192 ≤ d) {β : Type} {Q : Option Value → ruA → Prop} {res : β} (x1 : Int32) (x2 : Int32) {k54 : Int32 → ruA → Option (β)} (hk54 : ∀ (x3 : Int32) (A : ruA), k54 x3 A = some res → ruW E mmX10_flaggedBy d Q 54 [none, none, none, some (.int x3), none] [] A) : ∀ (n : Nat) (x3 : Int32) (x4 : Int32) (A : ruA), fX10_flaggedBy_l5 x1 x2 k54 n x3 x4 A = some res → ruW E mmX10_flaggedBy d Q 5 [some (rurf E 0), some (.int x1), some (.int x2), some (.int x3), some (.int x4)] [] A := by
  intro n
  induction n with
  | zero =>
    intro x3 x4 A h
    exact absurd h (by rw [fX10_flaggedBy_l5]; exact fun h => nomatch h)
  | succ n ih =>
    intro x3 x4 A h
    rw [fX10_flaggedBy_l5] at h
    refine ru_iload ddX10_flaggedBy_5 rfl ?_
    refine ru_aload_n ddX10_flaggedBy_7 rfl ?_
    refine ru_getR (r := 2) ddX10_flaggedBy_8 flX10_27 rfl rfl ?_
    refine ru_getI ddX10_flaggedBy_11 flX10_94 rfl ?_
    refine ru_icmp_ge 54 ddX10_flaggedBy_14 (by decide) (fun hc => ?_) (fun hc => ?_)
    · rw [if_pos hc] at h
      refine ru_wk (L2 := [none, none, none, some (.int x3), none]) ⟨rfl, trivial⟩ ?_
      exact hk54 x3 A h
    · rw [if_neg hc] at h
      refine ru_aload_n ddX10_flaggedBy_17 rfl ?_
      refine ru_getR (r := 63) ddX10_flaggedBy_18 flX10_38 rfl rfl ?_
      refine ru_iload ddX10_flaggedBy_21 rfl ?_
      refine ru_iload_n ddX10_flaggedBy_23 rfl ?_
      obtain ⟨v1, hv, h⟩ := ruB_inv h
      refine ru_callVi (as := [.int x4, .int x2]) (st := []) ddX10_flaggedBy_24 cvX10_238 rfl (wX3_hasSheets 2 (Nat.le_refl _) x4 x2 A hv) rfl (Nat.le_trans (m := 192) (by decide) hd) (Nat.le_of_ble_eq_true rfl) ?_
      clear hv
      obtain ⟨v2, A3, hq, h⟩ := ruB2_inv h
      have J : ruW E mmX10_flaggedBy d Q 48 [some (rurf E 0), some (.int x1), some (.int x2), some (.int v2), some (.int x4)] [] A3 := by
          refine ru_iinc (x4 + (1 : Int32)) ddX10_flaggedBy_48 (by decide) rfl rfl rfl rfl ?_
          refine ru_goto 5 ddX10_flaggedBy_51 (by decide) ?_
          exact ih v2 (x4 + (1 : Int32)) A3 h
      replace h := hq
      clear hq
      refine ru_if_eq 48 ddX10_flaggedBy_27 (by decide) (fun hc => ?_) (fun hc => ?_)
      · rw [if_pos hc] at h
        refine ru_wk (L2 := [some (rurf E 0), some (.int x1), some (.int x2), some (.int x3), some (.int x4)]) ⟨rfl, rfl, rfl, rfl, rfl, trivial⟩ ?_
        obtain ⟨rfl, rfl⟩ := ruS2 h
        exact J
      · rw [if_neg hc] at h
        refine ru_aload_n ddX10_flaggedBy_30 rfl ?_
        refine ru_iload_n ddX10_flaggedBy_31 rfl ?_
        refine ru_iload ddX10_flaggedBy_32 rfl ?_
        refine ru_iload_n ddX10_flaggedBy_34 rfl ?_
        obtain ⟨v4, A5, hv, h⟩ := ruB2_inv h
        refine ru_callVi (as := [.int x1, .int x4, .int x2]) (st := []) ddX10_flaggedBy_35 cvX10_297 rfl (wX10_comesTo 191 (Nat.le_refl _) x1 x4 x2 A hv) rfl (Nat.le_trans (m := 192) (by decide) hd) (Nat.le_of_ble_eq_true rfl) ?_
        clear hv
        refine ru_if_eq 48 ddX10_flaggedBy_38 (by decide) (fun hc => ?_) (fun hc => ?_)
        · rw [if_pos hc] at h
          refine ru_wk (L2 := [some (rurf E 0), some (.int x1), some (.int x2), some (.int x3), some (.int x4)]) ⟨rfl, rfl, rfl, rfl, rfl, trivial⟩ ?_
          obtain ⟨rfl, rfl⟩ := ruS2 h
          exact J
        · rw [if_neg hc] at h
          refine ru_iload_n ddX10_flaggedBy_41 rfl ?_
          refine ru_iconst (1 : Int32) ddX10_flaggedBy_42 rfl ?_
          refine ru_iload ddX10_flaggedBy_43 rfl ?_
          refine ru_ishl ddX10_flaggedBy_45 ?_
          refine ru_ior ddX10_flaggedBy_46 ?_
          refine ru_istore_n ddX10_flaggedBy_47 (by decide) rfl rfl ?_
          refine ru_wk (L2 := [some (rurf E 0), some (.int x1), some (.int x2), some (.int (x3 ||| ((1 : Int32) <<< (x4 &&& 31)))), some (.int x4)]) ⟨rfl, rfl, rfl, rfl, rfl, trivial⟩ ?_
          obtain ⟨rfl, rfl⟩ := ruS2 h
          exact J
theorem wX10_flaggedBy {E : ruE} (d : Nat) (hd : 192 ≤ d) (x1 : Int32) (x2 : Int32) (A : ruA) {r : Int32} {B : ruA} (h : fX10_flaggedBy x1 x2 A = some (r, B)) : ruC E mmX10_flaggedBy d [rurf E 0, .int x1, .int x2] A (ruPr r B) := by
  refine ruC.of (L := [some (rurf E 0), some (.int x1), some (.int x2), none, none]) (by decide) rfl (Nat.le_of_ble_eq_true rfl) rfl ?_
  unfold fX10_flaggedBy at h
  refine ru_iconst (0 : Int32) ddX10_flaggedBy_0 rfl ?_
  refine ru_istore_n ddX10_flaggedBy_1 (by decide) rfl rfl ?_
  refine ru_iconst (0 : Int32) ddX10_flaggedBy_2 rfl ?_
  refine ru_istore ddX10_flaggedBy_3 (by decide) rfl rfl ?_
  exact wX10_flaggedBy_l5 hd x1 x2 (fun v6 A7 h => by
        refine ru_iload_n ddX10_flaggedBy_54 rfl ?_
        exact ru_iretW ddX10_flaggedBy_55 rfl h) ruF (0 : Int32) (0 : Int32) A h
theorem wX3_roomsWithPuts_l4 {E : ruE} {d : Nat} (hd : 6 ≤ d) {β : Type} {Q : Option Value → ruA → Prop} {res : β} (x1 : Int32) {k38 : Int32 → ruA → Option (β)} (hk38 : ∀ (x2 : Int32) (A : ruA), k38 x2 A = some res → ruW E mmX3_roomsWithPuts d Q 38 [none, none, some (.int x2), none] [] A) : ∀ (n : Nat) (x2 : Int32) (x3 : Int32) (A : ruA), fX3_roomsWithPuts_l4 x1 k38 n x2 x3 A = some res → ruW E mmX3_roomsWithPuts d Q 4 [some (rurf E 63), some (.int x1), some (.int x2), some (.int x3)] [] A := by
  intro n
  induction n with
  | zero =>
    intro x2 x3 A h
    exact absurd h (by rw [fX3_roomsWithPuts_l4]; exact fun h => nomatch h)
  | succ n ih =>
    intro x2 x3 A h
    rw [fX3_roomsWithPuts_l4] at h
    refine ru_iload_n ddX3_roomsWithPuts_4 rfl ?_
    refine ru_aload_n ddX3_roomsWithPuts_5 rfl ?_
    refine ru_getR (r := 2) ddX3_roomsWithPuts_6 flX3_15 rfl rfl ?_
    refine ru_getI ddX3_roomsWithPuts_9 flX3_85 rfl ?_
    refine ru_icmp_ge 38 ddX3_roomsWithPuts_12 (by decide) (fun hc => ?_) (fun hc => ?_)
    · rw [if_pos hc] at h
      refine ru_wk (L2 := [none, none, some (.int x2), none]) ⟨rfl, trivial⟩ ?_
      exact hk38 x2 A h
    · rw [if_neg hc] at h
      refine ru_aload_n ddX3_roomsWithPuts_15 rfl ?_
      refine ru_bipush (6 : Int32) ddX3_roomsWithPuts_16 rfl ?_
      refine ru_iload_n ddX3_roomsWithPuts_18 rfl ?_
      refine ru_iload_n ddX3_roomsWithPuts_19 rfl ?_
      obtain ⟨v1, A2, hv, h⟩ := ruB2_inv h
      refine ru_callVi (as := [.int (6 : Int32), .int x3, .int x1]) (st := []) ddX3_roomsWithPuts_20 cvX3_92 rfl (wX3_of 5 (Nat.le_refl _) (6 : Int32) x3 x1 A hv) rfl (Nat.le_trans (m := 6) (by decide) hd) (Nat.le_of_ble_eq_true rfl) ?_
      clear hv
      obtain ⟨v3, hq, h⟩ := ruB_inv h
      have J : ruW E mmX3_roomsWithPuts d Q 32 [some (rurf E 63), some (.int x1), some (.int v3), some (.int x3)] [] A2 := by
          refine ru_iinc (x3 + (1 : Int32)) ddX3_roomsWithPuts_32 (by decide) rfl rfl rfl rfl ?_
          refine ru_goto 4 ddX3_roomsWithPuts_35 (by decide) ?_
          exact ih v3 (x3 + (1 : Int32)) A2 h
      replace h := hq
      clear hq
      refine ru_if_le 32 ddX3_roomsWithPuts_23 (by decide) (fun hc => ?_) (fun hc => ?_)
      · rw [if_pos hc] at h
        refine ru_wk (L2 := [some (rurf E 63), some (.int x1), some (.int x2), some (.int x3)]) ⟨rfl, rfl, rfl, rfl, trivial⟩ ?_
        obtain rfl := ruS1 h
        exact J
      · rw [if_neg hc] at h
        refine ru_iload_n ddX3_roomsWithPuts_26 rfl ?_
        refine ru_iconst (1 : Int32) ddX3_roomsWithPuts_27 rfl ?_
        refine ru_iload_n ddX3_roomsWithPuts_28 rfl ?_
        refine ru_ishl ddX3_roomsWithPuts_29 ?_
        refine ru_ior ddX3_roomsWithPuts_30 ?_
        refine ru_istore_n ddX3_roomsWithPuts_31 (by decide) rfl rfl ?_
        refine ru_wk (L2 := [some (rurf E 63), some (.int x1), some (.int (x2 ||| ((1 : Int32) <<< (x3 &&& 31)))), some (.int x3)]) ⟨rfl, rfl, rfl, rfl, trivial⟩ ?_
        obtain rfl := ruS1 h
        exact J
theorem wX3_roomsWithPuts {E : ruE} (d : Nat) (hd : 6 ≤ d) (x1 : Int32) (A : ruA) {r : Int32} {B : ruA} (h : fX3_roomsWithPuts x1 A = some (r, B)) : ruC E mmX3_roomsWithPuts d [rurf E 63, .int x1] A (ruPr r B) := by
  refine ruC.of (L := [some (rurf E 63), some (.int x1), none, none]) (by decide) rfl (Nat.le_of_ble_eq_true rfl) rfl ?_
  unfold fX3_roomsWithPuts at h
  refine ru_iconst (0 : Int32) ddX3_roomsWithPuts_0 rfl ?_
  refine ru_istore_n ddX3_roomsWithPuts_1 (by decide) rfl rfl ?_
  refine ru_iconst (0 : Int32) ddX3_roomsWithPuts_2 rfl ?_
  refine ru_istore_n ddX3_roomsWithPuts_3 (by decide) rfl rfl ?_
  exact wX3_roomsWithPuts_l4 hd x1 (fun v4 A5 h => by
        refine ru_iload_n ddX3_roomsWithPuts_38 rfl ?_
        exact ru_iretW ddX3_roomsWithPuts_39 rfl h) ruF (0 : Int32) (0 : Int32) A h
