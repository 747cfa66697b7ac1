theorem wX11_weightOf {E : ruE} (d : Nat) {dg : Nat} {gX11_weightOf : Int32 → Int32 → Option (Int32)} (hgX11_weightOf : ∀ (y0 y1 : Int32) (A : ruA) (r : Int32), gX11_weightOf y0 y1 = some r → ruC E mmX11_weightOf dg [.int y0, .int y1] A (ruPr r A)) (hdg : 19 ≤ dg) (hd : dg + 1 ≤ d) (x0 : Int32) (x1 : Int32) (A : ruA) {r : Int32} (h : fX11_weightOf gX11_weightOf x0 x1 = some r) : ruC E mmX11_weightOf d [.int x0, .int x1] A (ruPr r A) := by
  refine ruC.of (L := [some (.int x0), some (.int x1)]) (by decide) rfl (Nat.le_of_ble_eq_true rfl) rfl ?_
  unfold fX11_weightOf at h
  refine ru_iload_n ddX11_weightOf_0 rfl ?_
  by_cases hc0 : x0 = (0 : Int32)
  · rw [if_pos hc0] at h
    refine ru_tabC 44 ddX11_weightOf_1 hc0 ⟨by decide, by decide, _, rfl, by decide⟩ ?_
    refine ru_iload_n ddX11_weightOf_44 rfl ?_
    exact ru_iretP ddX11_weightOf_45 rfl h
  · rw [if_neg hc0] at h
    by_cases hc1 : x0 = (1 : Int32)
    · rw [if_pos hc1] at h
      refine ru_tabC 46 ddX11_weightOf_1 hc1 ⟨by decide, by decide, _, rfl, by decide⟩ ?_
      refine ru_iload_n ddX11_weightOf_46 rfl ?_
      refine ru_iconst (2 : Int32) ddX11_weightOf_47 rfl ?_
      refine ru_iadd ddX11_weightOf_48 ?_
      exact ru_iretP ddX11_weightOf_49 rfl h
    · rw [if_neg hc1] at h
      by_cases hc2 : x0 = (2 : Int32)
      · rw [if_pos hc2] at h
        refine ru_tabC 50 ddX11_weightOf_1 hc2 ⟨by decide, by decide, _, rfl, by decide⟩ ?_
        refine ru_iconst (3 : Int32) ddX11_weightOf_50 rfl ?_
        refine ru_iconst (1 : Int32) ddX11_weightOf_51 rfl ?_
        refine ru_iload_n ddX11_weightOf_52 rfl ?_
        obtain ⟨v1, hv, h⟩ := ruB_inv h
        refine ru_callSi (as := [.int (1 : Int32), .int x1]) (st := [.int (3 : Int32)]) ddX11_weightOf_53 csX11_146 (hgX11_weightOf (1 : Int32) x1 A _ hv) rfl hd (Nat.le_of_ble_eq_true rfl) ?_
        clear hv
        refine ru_imul ddX11_weightOf_56 ?_
        exact ru_iretP ddX11_weightOf_57 rfl h
      · rw [if_neg hc2] at h
        by_cases hc3 : x0 = (3 : Int32)
        · rw [if_pos hc3] at h
          refine ru_tabC 58 ddX11_weightOf_1 hc3 ⟨by decide, by decide, _, rfl, by decide⟩ ?_
          refine ru_iload_n ddX11_weightOf_58 rfl ?_
          refine ru_iconst (2 : Int32) ddX11_weightOf_59 rfl ?_
          refine ru_idiv ddX11_weightOf_60 (by decide) ?_
          exact ru_iretP ddX11_weightOf_61 rfl h
        · rw [if_neg hc3] at h
          by_cases hc4 : x0 = (4 : Int32)
          · rw [if_pos hc4] at h
            refine ru_tabC 62 ddX11_weightOf_1 hc4 ⟨by decide, by decide, _, rfl, by decide⟩ ?_
            refine ru_iload_n ddX11_weightOf_62 rfl ?_
            refine ru_iconst (1 : Int32) ddX11_weightOf_63 rfl ?_
            refine ru_isub ddX11_weightOf_64 ?_
            exact ru_iretP ddX11_weightOf_65 rfl h
          · rw [if_neg hc4] at h
            by_cases hc5 : x0 = (5 : Int32)
            · rw [if_pos hc5] at h
              refine ru_tabC 66 ddX11_weightOf_1 hc5 ⟨by decide, by decide, _, rfl, by decide⟩ ?_
              refine ru_iload_n ddX11_weightOf_66 rfl ?_
              refine ru_ineg ddX11_weightOf_67 ?_
              exact ru_iretP ddX11_weightOf_68 rfl h
            · rw [if_neg hc5] at h
              by_cases hc6 : x0 = (6 : Int32)
              · rw [if_pos hc6] at h
                refine ru_tabC 69 ddX11_weightOf_1 hc6 ⟨by decide, by decide, _, rfl, by decide⟩ ?_
                refine ru_iconst (5 : Int32) ddX11_weightOf_69 rfl ?_
                refine ru_iload_n ddX11_weightOf_70 rfl ?_
                obtain ⟨v2, hv, h⟩ := ruB_inv h
                refine ru_callSi (as := [.int (5 : Int32), .int x1]) (st := []) ddX11_weightOf_71 csX11_146 (hgX11_weightOf (5 : Int32) x1 A _ hv) rfl hd (Nat.le_of_ble_eq_true rfl) ?_
                clear hv
                refine ru_iload_n ddX11_weightOf_74 rfl ?_
                refine ru_isub ddX11_weightOf_75 ?_
                exact ru_iretP ddX11_weightOf_76 rfl h
              · rw [if_neg hc6] at h
                refine ru_tabD 77 ddX11_weightOf_1 (fun j h9 => ?_) (by decide) ?_
                · have h8 : j = 0 ∨ j = 1 ∨ j = 2 ∨ j = 3 ∨ j = 4 ∨ j = 5 ∨ j = 6 := by omega
                  rcases h8 with rfl | rfl | rfl | rfl | rfl | rfl | rfl
                  · exact fun e => hc0 (e.trans (by decide))
                  · exact fun e => hc1 (e.trans (by decide))
                  · exact fun e => hc2 (e.trans (by decide))
                  · exact fun e => hc3 (e.trans (by decide))
                  · exact fun e => hc4 (e.trans (by decide))
                  · exact fun e => hc5 (e.trans (by decide))
                  · exact fun e => hc6 (e.trans (by decide))
                refine ru_iconst (1 : Int32) ddX11_weightOf_77 rfl ?_
                refine ru_iload_n ddX11_weightOf_78 rfl ?_
                refine ru_iconst (1 : Int32) ddX11_weightOf_79 rfl ?_
                refine ru_isub ddX11_weightOf_80 ?_
                obtain ⟨v3, hv, h⟩ := ruB_inv h
                refine ru_callSi (as := [.int (1 : Int32), .int (x1 - (1 : Int32))]) (st := []) ddX11_weightOf_81 csX11_146 (hgX11_weightOf (1 : Int32) (x1 - (1 : Int32)) A _ hv) rfl hd (Nat.le_of_ble_eq_true rfl) ?_
                clear hv
                exact ru_iretP ddX11_weightOf_84 rfl h
theorem wX11_weightOfT {E : ruE} (d : Nat) (hd : 21 ≤ d) (x0 x1 : Int32) (A : ruA) {r : Int32} (h : fX11_weightOfT x0 x1 = some r) : ruC E mmX11_weightOf 21 [.int x0, .int x1] A (ruPr r A) :=
  wX11_weightOf 21 (dg := 20) (fun y0 y1 A r h => wX11_weightOf 20 (dg := 19) (fun _ _ _ _ h => by cases (show (none : Option Int32) = some _ from h)) (Nat.le_refl _) (Nat.le_refl _) y0 y1 A h) (by omega) (Nat.le_refl _) x0 x1 A h
theorem wX11_weight {E : ruE} (d : Nat) (hd : 22 ≤ d) (x1 : Int32) (x2 : Int32) (A : ruA) {r : Int32} {B : ruA} (h : fX11_weight x1 x2 A = some (r, B)) : ruC E mmX11_weight d [rurf E 83, .int x1, .int x2] A (ruPr r B) := by
  refine ruC.of (L := [some (rurf E 83), some (.int x1), some (.int x2)]) (by decide) rfl (Nat.le_of_ble_eq_true rfl) rfl ?_
  unfold fX11_weight at h
  refine ru_iload_n ddX11_weight_0 rfl ?_
  refine ru_iconst (0 : Int32) ddX11_weight_1 rfl ?_
  refine ru_bipush (7 : Int32) ddX11_weight_2 rfl ?_
  obtain ⟨v1, hv, h⟩ := ruB_inv h
  refine ru_callSi (as := [.int x1, .int (0 : Int32), .int (7 : Int32)]) (st := []) ddX11_weight_4 csX11_66 (wX11_within 1 (Nat.le_refl _) x1 (0 : Int32) (7 : Int32) A hv) rfl (Nat.le_trans (m := 22) (by decide) hd) (Nat.le_of_ble_eq_true rfl) ?_
  clear hv
  refine ru_if_eq 18 ddX11_weight_7 (by decide) (fun hc => ?_) (fun hc => ?_)
  · rw [if_pos hc] at h
    refine ru_aload_n ddX11_weight_18 rfl ?_
    refine ru_ldc (v := (-1000001 : Int32)) ddX11_weight_19 ckX11_65 ?_
    obtain ⟨v2, A3, hv, h⟩ := ruB2_inv h
    refine ru_callVi (as := [.int (-1000001 : Int32)]) (st := []) ddX11_weight_21 cvX11_82 rfl (wX11_finding 1 (Nat.le_refl _) (-1000001 : Int32) A hv) rfl (Nat.le_trans (m := 22) (by decide) hd) (Nat.le_of_ble_eq_true rfl) ?_
    clear hv
    exact ru_iretW ddX11_weight_24 rfl h
  · rw [if_neg hc] at h
    refine ru_iload_n ddX11_weight_10 rfl ?_
    refine ru_iload_n ddX11_weight_11 rfl ?_
    obtain ⟨v4, hv, h⟩ := ruB_inv h
    refine ru_callSi (as := [.int x1, .int x2]) (st := []) ddX11_weight_12 csX11_146 (wX11_weightOfT 21 (Nat.le_refl _) x1 x2 A hv) rfl (Nat.le_trans (m := 22) (by decide) hd) (Nat.le_of_ble_eq_true rfl) ?_
    clear hv
    refine ru_goto 24 ddX11_weight_15 (by decide) ?_
    exact ru_iretW ddX11_weight_24 rfl h
theorem wX11_as {E : ruE} (d : Nat) (hd : 3 ≤ d) (x1 : Int32) (x2 : Int32) (x3 : Int32) (x4 : Int32) (A : ruA) {r : Int32} {B : ruA} (h : fX11_as x1 x2 x3 x4 A = some (r, B)) : ruC E mmX11_as d [rurf E 83, .int x1, .int x2, .int x3, .int x4] A (ruPr r B) := by
  refine ruC.of (L := [some (rurf E 83), some (.int x1), some (.int x2), some (.int x3), some (.int x4)]) (by decide) rfl (Nat.le_of_ble_eq_true rfl) rfl ?_
  unfold fX11_as at h
  refine ru_aload_n ddX11_as_0 rfl ?_
  refine ru_iload_n ddX11_as_1 rfl ?_
  refine ru_iconst (2 : Int32) ddX11_as_2 rfl ?_
  obtain ⟨v1, hv, h⟩ := ruB_inv h
  refine ru_callVi (as := [.int x1, .int (2 : Int32)]) (st := []) ddX11_as_3 cvX11_87 rfl (wX11_is 2 (Nat.le_refl _) x1 (2 : Int32) A hv) rfl (Nat.le_trans (m := 3) (by decide) hd) (Nat.le_of_ble_eq_true rfl) ?_
  clear hv
  refine ru_if_eq 34 ddX11_as_6 (by decide) (fun hc => ?_) (fun hc => ?_)
  · rw [if_pos hc] at h
    refine ru_aload_n ddX11_as_34 rfl ?_
    refine ru_ldc (v := (-1000001 : Int32)) ddX11_as_35 ckX11_65 ?_
    obtain ⟨v2, A3, hv, h⟩ := ruB2_inv h
    refine ru_callVi (as := [.int (-1000001 : Int32)]) (st := []) ddX11_as_37 cvX11_82 rfl (wX11_finding 1 (Nat.le_refl _) (-1000001 : Int32) A hv) rfl (Nat.le_trans (m := 3) (by decide) hd) (Nat.le_of_ble_eq_true rfl) ?_
    clear hv
    exact ru_iretW ddX11_as_40 rfl h
  · rw [if_neg hc] at h
    refine ru_iload_n ddX11_as_9 rfl ?_
    obtain ⟨v4, hv, h⟩ := ruB_inv h
    refine ru_callSi (as := [.int x2]) (st := []) ddX11_as_10 csX11_128 (wX11_isYear 2 (Nat.le_refl _) x2 A hv) rfl (Nat.le_trans (m := 3) (by decide) hd) (Nat.le_of_ble_eq_true rfl) ?_
    clear hv
    refine ru_if_eq 34 ddX11_as_13 (by decide) (fun hc => ?_) (fun hc => ?_)
    · rw [if_pos hc] at h
      refine ru_aload_n ddX11_as_34 rfl ?_
      refine ru_ldc (v := (-1000001 : Int32)) ddX11_as_35 ckX11_65 ?_
      obtain ⟨v5, A6, hv, h⟩ := ruB2_inv h
      refine ru_callVi (as := [.int (-1000001 : Int32)]) (st := []) ddX11_as_37 cvX11_82 rfl (wX11_finding 1 (Nat.le_refl _) (-1000001 : Int32) A hv) rfl (Nat.le_trans (m := 3) (by decide) hd) (Nat.le_of_ble_eq_true rfl) ?_
      clear hv
      exact ru_iretW ddX11_as_40 rfl h
    · rw [if_neg hc] at h
      refine ru_iload_n ddX11_as_16 rfl ?_
      obtain ⟨v7, hv, h⟩ := ruB_inv h
      refine ru_callSi (as := [.int x3]) (st := []) ddX11_as_17 csX11_78 (wX11_isQuestion 2 (Nat.le_refl _) x3 A hv) rfl (Nat.le_trans (m := 3) (by decide) hd) (Nat.le_of_ble_eq_true rfl) ?_
      clear hv
      refine ru_if_eq 34 ddX11_as_20 (by decide) (fun hc => ?_) (fun hc => ?_)
      · rw [if_pos hc] at h
        refine ru_aload_n ddX11_as_34 rfl ?_
        refine ru_ldc (v := (-1000001 : Int32)) ddX11_as_35 ckX11_65 ?_
        obtain ⟨v8, A9, hv, h⟩ := ruB2_inv h
        refine ru_callVi (as := [.int (-1000001 : Int32)]) (st := []) ddX11_as_37 cvX11_82 rfl (wX11_finding 1 (Nat.le_refl _) (-1000001 : Int32) A hv) rfl (Nat.le_trans (m := 3) (by decide) hd) (Nat.le_of_ble_eq_true rfl) ?_
        clear hv
        exact ru_iretW ddX11_as_40 rfl h
      · rw [if_neg hc] at h
        refine ru_iload ddX11_as_23 rfl ?_
        refine ru_iconst (0 : Int32) ddX11_as_25 rfl ?_
        refine ru_bipush (7 : Int32) ddX11_as_26 rfl ?_
        obtain ⟨v10, hv, h⟩ := ruB_inv h
        refine ru_callSi (as := [.int x4, .int (0 : Int32), .int (7 : Int32)]) (st := []) ddX11_as_28 csX11_66 (wX11_within 1 (Nat.le_refl _) x4 (0 : Int32) (7 : Int32) A hv) rfl (Nat.le_trans (m := 3) (by decide) hd) (Nat.le_of_ble_eq_true rfl) ?_
        clear hv
        refine ru_if_ne 41 ddX11_as_31 (by decide) (fun hc => ?_) (fun hc => ?_)
        · rw [if_neg hc] at h
          refine ru_aload_n ddX11_as_41 rfl ?_
          refine ru_iload_n ddX11_as_42 rfl ?_
          refine ru_iload_n ddX11_as_43 rfl ?_
          obtain ⟨v11, hv, h⟩ := ruB_inv h
          refine ru_callVi (as := [.int x1, .int x2]) (st := []) ddX11_as_44 cvX11_98 rfl (wX11_hasSheet 2 (Nat.le_refl _) x1 x2 A hv) rfl (Nat.le_trans (m := 3) (by decide) hd) (Nat.le_of_ble_eq_true rfl) ?_
          clear hv
          refine ru_if_ne 57 ddX11_as_47 (by decide) (fun hc => ?_) (fun hc => ?_)
          · rw [if_neg hc] at h
            refine ru_aload_n ddX11_as_57 rfl ?_
            refine ru_iload_n ddX11_as_58 rfl ?_
            refine ru_iload_n ddX11_as_59 rfl ?_
            refine ru_iload_n ddX11_as_60 rfl ?_
            obtain ⟨v12, hv, h⟩ := ruB_inv h
            refine ru_callVi (as := [.int x1, .int x2, .int x3]) (st := []) ddX11_as_61 cvX11_131 rfl (wX11_kind 2 (Nat.le_refl _) x1 x2 x3 A hv) rfl (Nat.le_trans (m := 3) (by decide) hd) (Nat.le_of_ble_eq_true rfl) ?_
            clear hv
            refine ru_iload ddX11_as_64 rfl ?_
            obtain ⟨v13, hv, h⟩ := ruB_inv h
            refine ru_callSi (as := [.int v12, .int x4]) (st := []) ddX11_as_66 csX11_134 (wX11_isUnder 2 (Nat.le_refl _) v12 x4 A hv) rfl (Nat.le_trans (m := 3) (by decide) hd) (Nat.le_of_ble_eq_true rfl) ?_
            clear hv
            refine ru_if_eq 82 ddX11_as_69 (by decide) (fun hc => ?_) (fun hc => ?_)
            · rw [if_pos hc] at h
              refine ru_aload_n ddX11_as_82 rfl ?_
              refine ru_ldc (v := (-1000003 : Int32)) ddX11_as_83 ckX11_149 ?_
              obtain ⟨v14, A15, hv, h⟩ := ruB2_inv h
              refine ru_callVi (as := [.int (-1000003 : Int32)]) (st := []) ddX11_as_85 cvX11_82 rfl (wX11_finding 1 (Nat.le_refl _) (-1000003 : Int32) A hv) rfl (Nat.le_trans (m := 3) (by decide) hd) (Nat.le_of_ble_eq_true rfl) ?_
              clear hv
              exact ru_iretW ddX11_as_88 rfl h
            · rw [if_neg hc] at h
              refine ru_aload_n ddX11_as_72 rfl ?_
              refine ru_iload_n ddX11_as_73 rfl ?_
              refine ru_iload_n ddX11_as_74 rfl ?_
              refine ru_iload_n ddX11_as_75 rfl ?_
              obtain ⟨v16, hv, h⟩ := ruB_inv h
              refine ru_callVi (as := [.int x1, .int x2, .int x3]) (st := []) ddX11_as_76 cvX11_74 rfl (wX11_choice 2 (Nat.le_refl _) x1 x2 x3 A hv) rfl (Nat.le_trans (m := 3) (by decide) hd) (Nat.le_of_ble_eq_true rfl) ?_
              clear hv
              refine ru_goto 88 ddX11_as_79 (by decide) ?_
              exact ru_iretW ddX11_as_88 rfl h
          · rw [if_pos hc] at h
            refine ru_aload_n ddX11_as_50 rfl ?_
            refine ru_ldc (v := (-1000004 : Int32)) ddX11_as_51 ckX11_127 ?_
            obtain ⟨v17, A18, hv, h⟩ := ruB2_inv h
            refine ru_callVi (as := [.int (-1000004 : Int32)]) (st := []) ddX11_as_53 cvX11_82 rfl (wX11_finding 1 (Nat.le_refl _) (-1000004 : Int32) A hv) rfl (Nat.le_trans (m := 3) (by decide) hd) (Nat.le_of_ble_eq_true rfl) ?_
            clear hv
            exact ru_iretW ddX11_as_56 rfl h
        · rw [if_pos hc] at h
          refine ru_aload_n ddX11_as_34 rfl ?_
          refine ru_ldc (v := (-1000001 : Int32)) ddX11_as_35 ckX11_65 ?_
          obtain ⟨v19, A20, hv, h⟩ := ruB2_inv h
          refine ru_callVi (as := [.int (-1000001 : Int32)]) (st := []) ddX11_as_37 cvX11_82 rfl (wX11_finding 1 (Nat.le_refl _) (-1000001 : Int32) A hv) rfl (Nat.le_trans (m := 3) (by decide) hd) (Nat.le_of_ble_eq_true rfl) ?_
          clear hv
          exact ru_iretW ddX11_as_40 rfl h
theorem wX11_sheetsOf_l5 {E : ruE} {d : Nat} (hd : 4 ≤ d) {β : Type} {Q : Option Value → ruA → Prop} {res : β} (x1 : Int32) (x2 : Int32) (A : ruA) {k41 : Int32 → Option (β)} (hk41 : ∀ (x3 : Int32), k41 x3 = some res → ruW E mmX11_sheetsOf d Q 41 [none, none, none, some (.int x3), none] [] A) : ∀ (n : Nat) (x3 : Int32) (x4 : Int32), fX11_sheetsOf_l5 x1 x2 A k41 n x3 x4 = some res → ruW E mmX11_sheetsOf d Q 5 [some (rurf E 83), some (.int x1), some (.int x2), some (.int x3), some (.int x4)] [] A := by
  intro n
  induction n with
  | zero =>
    intro x3 x4 h
    exact absurd h (by rw [fX11_sheetsOf_l5]; exact fun h => nomatch h)
  | succ n ih =>
    intro x3 x4 h
    rw [fX11_sheetsOf_l5] at h
    refine ru_iload ddX11_sheetsOf_5 rfl ?_
    refine ru_aload_n ddX11_sheetsOf_7 rfl ?_
    refine ru_getR (r := 84) ddX11_sheetsOf_8 flX11_9 rfl rfl ?_
    refine ru_iconst (2 : Int32) ddX11_sheetsOf_11 rfl ?_
    obtain ⟨v1, hv, h⟩ := ruB_inv h
    refine ru_iald ddX11_sheetsOf_12 rfl hv ?_
    clear hv
    refine ru_icmp_ge 41 ddX11_sheetsOf_13 (by decide) (fun hc => ?_) (fun hc => ?_)
    · rw [if_pos hc] at h
      refine ru_wk (L2 := [none, none, none, some (.int x3), none]) ⟨rfl, trivial⟩ ?_
      exact hk41 x3 h
    · rw [if_neg hc] at h
      refine ru_iload_n ddX11_sheetsOf_16 rfl ?_
      refine ru_aload_n ddX11_sheetsOf_17 rfl ?_
      refine ru_iload ddX11_sheetsOf_18 rfl ?_
      refine ru_iload_n ddX11_sheetsOf_20 rfl ?_
      refine ru_iload_n ddX11_sheetsOf_21 rfl ?_
      obtain ⟨v2, hv, h⟩ := ruB_inv h
      refine ru_callVi (as := [.int x4, .int x1, .int x2]) (st := [.int x3]) ddX11_sheetsOf_22 cvX11_124 rfl (wX11_isOf 3 (Nat.le_refl _) x4 x1 x2 A hv) rfl (Nat.le_trans (m := 4) (by decide) hd) (Nat.le_of_ble_eq_true rfl) ?_
      clear hv
      obtain ⟨v3, hq, h⟩ := ruB_inv h
      have J : ruW E mmX11_sheetsOf d Q 33 [some (rurf E 83), some (.int x1), some (.int x2), none, some (.int x4)] [.int v3, .int x3] A := by
          refine ru_iadd ddX11_sheetsOf_33 ?_
          refine ru_istore_n ddX11_sheetsOf_34 (by decide) rfl rfl ?_
          refine ru_iinc (x4 + (1 : Int32)) ddX11_sheetsOf_35 (by decide) rfl rfl rfl rfl ?_
          refine ru_goto 5 ddX11_sheetsOf_38 (by decide) ?_
          exact ih (x3 + v3) (x4 + (1 : Int32)) h
      replace h := hq
      clear hq
      refine ru_if_eq 32 ddX11_sheetsOf_25 (by decide) (fun hc => ?_) (fun hc => ?_)
      · rw [if_pos hc] at h
        refine ru_iconst (0 : Int32) ddX11_sheetsOf_32 rfl ?_
        refine ru_wk (L2 := [some (rurf E 83), some (.int x1), some (.int x2), none, some (.int x4)]) ⟨rfl, rfl, rfl, rfl, trivial⟩ ?_
        obtain rfl := ruS1 h
        exact J
      · rw [if_neg hc] at h
        refine ru_iconst (1 : Int32) ddX11_sheetsOf_28 rfl ?_
        refine ru_goto 33 ddX11_sheetsOf_29 (by decide) ?_
        refine ru_wk (L2 := [some (rurf E 83), some (.int x1), some (.int x2), none, some (.int x4)]) ⟨rfl, rfl, rfl, rfl, trivial⟩ ?_
        obtain rfl := ruS1 h
        exact J
theorem wX11_sheetsOf {E : ruE} (d : Nat) (hd : 4 ≤ d) (x1 : Int32) (x2 : Int32) (A : ruA) {r : Int32} (h : fX11_sheetsOf x1 x2 A = some r) : ruC E mmX11_sheetsOf d [rurf E 83, .int x1, .int x2] A (ruPr r A) := by
  refine ruC.of (L := [some (rurf E 83), some (.int x1), some (.int x2), none, none]) (by decide) rfl (Nat.le_of_ble_eq_true rfl) rfl ?_
  unfold fX11_sheetsOf at h
  refine ru_iconst (0 : Int32) ddX11_sheetsOf_0 rfl ?_
  refine ru_istore_n ddX11_sheetsOf_1 (by decide) rfl rfl ?_
  refine ru_iconst (0 : Int32) ddX11_sheetsOf_2 rfl ?_
  refine ru_istore ddX11_sheetsOf_3 (by decide) rfl rfl ?_
  exact wX11_sheetsOf_l5 hd x1 x2 A (fun v4 h => by
        refine ru_iload_n ddX11_sheetsOf_41 rfl ?_
        exact ru_iretP ddX11_sheetsOf_42 rfl h) ruF (0 : Int32) (0 : Int32) h
theorem wX11_hasBlank_l6 {E : ruE} {d : Nat} (hd : 3 ≤ d) {β : Type} {Q : Option Value → ruA → Prop} {res : β} (x1 : Int32) (x2 : Int32) (x3 : Int32) (x4 : Int32) (A : ruA) {k45 : Int32 → Option (β)} (hk45 : ∀ (x5 : Int32), k45 x5 = some res → ruW E mmX11_hasBlank d Q 45 [none, none, none, none, none, some (.int x5), none] [] A) : ∀ (n : Nat) (x5 : Int32) (x6 : Int32), fX11_hasBlank_l6 x1 x2 x3 x4 A k45 n x5 x6 = some res → ruW E mmX11_hasBlank d Q 6 [some (rurf E 83), some (.int x1), some (.int x2), some (.int x3), some (.int x4), some (.int x5), some (.int x6)] [] A := by
  intro n
  induction n with
  | zero =>
    intro x5 x6 h
    exact absurd h (by rw [fX11_hasBlank_l6]; exact fun h => nomatch h)
  | succ n ih =>
    intro x5 x6 h
    rw [fX11_hasBlank_l6] at h
    refine ru_iload ddX11_hasBlank_6 rfl ?_
    refine ru_iload_n ddX11_hasBlank_8 rfl ?_
    refine ru_iload ddX11_hasBlank_9 rfl ?_
    refine ru_iadd ddX11_hasBlank_11 ?_
    refine ru_icmp_ge 45 ddX11_hasBlank_12 (by decide) (fun hc => ?_) (fun hc => ?_)
    · rw [if_pos hc] at h
      refine ru_wk (L2 := [none, none, none, none, none, some (.int x5), none]) ⟨rfl, trivial⟩ ?_
      exact hk45 x5 h
    · rw [if_neg hc] at h
      refine ru_iload ddX11_hasBlank_15 rfl ?_
      obtain ⟨v1, hq, h⟩ := ruB_inv h
      have J : ruW E mmX11_hasBlank d Q 37 [some (rurf E 83), some (.int x1), some (.int x2), some (.int x3), some (.int x4), none, some (.int x6)] [.int v1] A := by
          refine ru_istore ddX11_hasBlank_37 (by decide) rfl rfl ?_
          refine ru_iinc (x6 + (1 : Int32)) ddX11_hasBlank_39 (by decide) rfl rfl rfl rfl ?_
          refine ru_goto 6 ddX11_hasBlank_42 (by decide) ?_
          exact ih v1 (x6 + (1 : Int32)) h
      replace h := hq
      clear hq
      refine ru_if_ne 32 ddX11_hasBlank_17 (by decide) (fun hc => ?_) (fun hc => ?_)
      · rw [if_neg hc] at h
        refine ru_iconst (1 : Int32) ddX11_hasBlank_32 rfl ?_
        refine ru_goto 37 ddX11_hasBlank_33 (by decide) ?_
        refine ru_wk (L2 := [some (rurf E 83), some (.int x1), some (.int x2), some (.int x3), some (.int x4), none, some (.int x6)]) ⟨rfl, rfl, rfl, rfl, rfl, rfl, trivial⟩ ?_
        obtain rfl := ruS1 h
        exact J
      · rw [if_pos hc] at h
        refine ru_aload_n ddX11_hasBlank_20 rfl ?_
        refine ru_iload_n ddX11_hasBlank_21 rfl ?_
        refine ru_iload_n ddX11_hasBlank_22 rfl ?_
        refine ru_iload ddX11_hasBlank_23 rfl ?_
        obtain ⟨v2, hv, h⟩ := ruB_inv h
        refine ru_callVi (as := [.int x1, .int x2, .int x6]) (st := []) ddX11_hasBlank_25 cvX11_74 rfl (wX11_choice 2 (Nat.le_refl _) x1 x2 x6 A hv) rfl (Nat.le_trans (m := 3) (by decide) hd) (Nat.le_of_ble_eq_true rfl) ?_
        clear hv
        refine ru_iconst (-1 : Int32) ddX11_hasBlank_28 rfl ?_
        refine ru_icmp_ne 36 ddX11_hasBlank_29 (by decide) (fun hc => ?_) (fun hc => ?_)
        · rw [if_neg hc] at h
          refine ru_iconst (0 : Int32) ddX11_hasBlank_36 rfl ?_
          refine ru_wk (L2 := [some (rurf E 83), some (.int x1), some (.int x2), some (.int x3), some (.int x4), none, some (.int x6)]) ⟨rfl, rfl, rfl, rfl, rfl, rfl, trivial⟩ ?_
          obtain rfl := ruS1 h
          exact J
        · rw [if_pos hc] at h
          refine ru_iconst (1 : Int32) ddX11_hasBlank_32 rfl ?_
          refine ru_goto 37 ddX11_hasBlank_33 (by decide) ?_
          refine ru_wk (L2 := [some (rurf E 83), some (.int x1), some (.int x2), some (.int x3), some (.int x4), none, some (.int x6)]) ⟨rfl, rfl, rfl, rfl, rfl, rfl, trivial⟩ ?_
          obtain rfl := ruS1 h
          exact J
theorem wX11_hasBlank {E : ruE} (d : Nat) (hd : 3 ≤ d) (x1 : Int32) (x2 : Int32) (x3 : Int32) (x4 : Int32) (A : ruA) {r : Int32} (h : fX11_hasBlank x1 x2 x3 x4 A = some r) : ruC E mmX11_hasBlank d [rurf E 83, .int x1, .int x2, .int x3, .int x4] A (ruPr r A) := by
  refine ruC.of (L := [some (rurf E 83), some (.int x1), some (.int x2), some (.int x3), some (.int x4), none, none]) (by decide) rfl (Nat.le_of_ble_eq_true rfl) rfl ?_
  unfold fX11_hasBlank at h
  refine ru_iconst (0 : Int32) ddX11_hasBlank_0 rfl ?_
  refine ru_istore ddX11_hasBlank_1 (by decide) rfl rfl ?_
  refine ru_iload_n ddX11_hasBlank_3 rfl ?_
  refine ru_istore ddX11_hasBlank_4 (by decide) rfl rfl ?_
  exact wX11_hasBlank_l6 hd x1 x2 x3 x4 A (fun v3 h => by
        refine ru_iload ddX11_hasBlank_45 rfl ?_
        obtain ⟨_, hz, h⟩ := ruB_inv h
        exact ru_zretP ddX11_hasBlank_47 rfl (rubz_eq hz) h) ruF (0 : Int32) x3 h
theorem wX11_likes_l35 {E : ruE} {d : Nat} (hd : 4 ≤ d) {β : Type} {Q : Option Value → ruA → Prop} {res : β} (x1 : Int32) (x2 : Int32) (x3 : Int32) (x4 : Int32) (x5 : Int32) (x6 : Int32) (A : ruA) {k82 : Int32 → Option (β)} (hk82 : ∀ (x7 : Int32), k82 x7 = some res → ruW E mmX11_likes d Q 82 [some (rurf E 83), some (.int x1), some (.int x2), some (.int x3), some (.int x4), some (.int x5), some (.int x6), some (.int x7), none] [] A) : ∀ (n : Nat) (x7 : Int32) (x8 : Int32), fX11_likes_l35 x1 x2 x3 x4 x5 x6 A k82 n x7 x8 = some res → ruW E mmX11_likes d Q 35 [some (rurf E 83), some (.int x1), some (.int x2), some (.int x3), some (.int x4), some (.int x5), some (.int x6), some (.int x7), some (.int x8)] [] A := by
  intro n
  induction n with
  | zero =>
    intro x7 x8 h
    exact absurd h (by rw [fX11_likes_l35]; exact fun h => nomatch h)
  | succ n ih =>
    intro x7 x8 h
    rw [fX11_likes_l35] at h
    refine ru_iload ddX11_likes_35 rfl ?_
    refine ru_iload_n ddX11_likes_37 rfl ?_
    refine ru_iload ddX11_likes_38 rfl ?_
    refine ru_iadd ddX11_likes_40 ?_
    refine ru_icmp_ge 82 ddX11_likes_41 (by decide) (fun hc => ?_) (fun hc => ?_)
    · rw [if_pos hc] at h
      refine ru_wk (L2 := [some (rurf E 83), some (.int x1), some (.int x2), some (.int x3), some (.int x4), some (.int x5), some (.int x6), some (.int x7), none]) ⟨rfl, rfl, rfl, rfl, rfl, rfl, rfl, rfl, trivial⟩ ?_
      exact hk82 x7 h
    · rw [if_neg hc] at h
      refine ru_iload ddX11_likes_44 rfl ?_
      refine ru_if_eq 82 ddX11_likes_46 (by decide) (fun hc => ?_) (fun hc => ?_)
      · rw [if_pos hc] at h
        refine ru_wk (L2 := [some (rurf E 83), some (.int x1), some (.int x2), some (.int x3), some (.int x4), some (.int x5), some (.int x6), some (.int x7), none]) ⟨rfl, rfl, rfl, rfl, rfl, rfl, rfl, rfl, trivial⟩ ?_
        exact hk82 x7 h
      · rw [if_neg hc] at h
        refine ru_aload_n ddX11_likes_49 rfl ?_
        refine ru_iload ddX11_likes_50 rfl ?_
        refine ru_iload_n ddX11_likes_52 rfl ?_
        refine ru_iload ddX11_likes_53 rfl ?_
        obtain ⟨v4, hv, h⟩ := ruB_inv h
        refine ru_callVi (as := [.int x6, .int x2, .int x8]) (st := []) ddX11_likes_55 cvX11_74 rfl (wX11_choice 2 (Nat.le_refl _) x6 x2 x8 A hv) rfl (Nat.le_trans (m := 4) (by decide) hd) (Nat.le_of_ble_eq_true rfl) ?_
        clear hv
        refine ru_aload_n ddX11_likes_58 rfl ?_
        refine ru_iload_n ddX11_likes_59 rfl ?_
        refine ru_iload_n ddX11_likes_60 rfl ?_
        refine ru_iload ddX11_likes_61 rfl ?_
        obtain ⟨v5, hv, h⟩ := ruB_inv h
        refine ru_callVi (as := [.int x1, .int x2, .int x8]) (st := [.int v4]) ddX11_likes_63 cvX11_74 rfl (wX11_choice 2 (Nat.le_refl _) x1 x2 x8 A hv) rfl (Nat.le_trans (m := 4) (by decide) hd) (Nat.le_of_ble_eq_true rfl) ?_
        clear hv
        obtain ⟨v6, hq, h⟩ := ruB_inv h
        have J : ruW E mmX11_likes d Q 74 [some (rurf E 83), some (.int x1), some (.int x2), some (.int x3), some (.int x4), some (.int x5), some (.int x6), none, some (.int x8)] [.int v6] A := by
            refine ru_istore ddX11_likes_74 (by decide) rfl rfl ?_
            refine ru_iinc (x8 + (1 : Int32)) ddX11_likes_76 (by decide) rfl rfl rfl rfl ?_
            refine ru_goto 35 ddX11_likes_79 (by decide) ?_
            exact ih v6 (x8 + (1 : Int32)) h
        replace h := hq
        clear hq
        refine ru_icmp_ne 73 ddX11_likes_66 (by decide) (fun hc => ?_) (fun hc => ?_)
        · rw [if_neg hc] at h
          refine ru_iconst (0 : Int32) ddX11_likes_73 rfl ?_
          refine ru_wk (L2 := [some (rurf E 83), some (.int x1), some (.int x2), some (.int x3), some (.int x4), some (.int x5), some (.int x6), none, some (.int x8)]) ⟨rfl, rfl, rfl, rfl, rfl, rfl, rfl, rfl, trivial⟩ ?_
          obtain rfl := ruS1 h
          exact J
        · rw [if_pos hc] at h
          refine ru_iconst (1 : Int32) ddX11_likes_69 rfl ?_
          refine ru_goto 74 ddX11_likes_70 (by decide) ?_
          refine ru_wk (L2 := [some (rurf E 83), some (.int x1), some (.int x2), some (.int x3), some (.int x4), some (.int x5), some (.int x6), none, some (.int x8)]) ⟨rfl, rfl, rfl, rfl, rfl, rfl, rfl, rfl, trivial⟩ ?_
          obtain rfl := ruS1 h
          exact J
theorem wX11_likes_l6 {E : ruE} {d : Nat} (hd : 4 ≤ d) {β : Type} {Q : Option Value → ruA → Prop} {res : β} (x1 : Int32) (x2 : Int32) (x3 : Int32) (x4 : Int32) (A : ruA) {k106 : Int32 → Option (β)} (hk106 : ∀ (x5 : Int32), k106 x5 = some res → ruW E mmX11_likes d Q 106 [none, none, none, none, none, some (.int x5), none, none, none] [] A) : ∀ (n : Nat) (x5 : Int32) (x6 : Int32), fX11_likes_l6 x1 x2 x3 x4 A k106 n x5 x6 = some res → ruW E mmX11_likes d Q 6 [some (rurf E 83), some (.int x1), some (.int x2), some (.int x3), some (.int x4), some (.int x5), some (.int x6), none, none] [] A := by
  intro n
  induction n with
  | zero =>
    intro x5 x6 h
    exact absurd h (by rw [fX11_likes_l6]; exact fun h => nomatch h)
  | succ n ih =>
    intro x5 x6 h
    rw [fX11_likes_l6] at h
    refine ru_iload ddX11_likes_6 rfl ?_
    refine ru_aload_n ddX11_likes_8 rfl ?_
    refine ru_getR (r := 84) ddX11_likes_9 flX11_9 rfl rfl ?_
    refine ru_iconst (2 : Int32) ddX11_likes_12 rfl ?_
    obtain ⟨v1, hv, h⟩ := ruB_inv h
    refine ru_iald ddX11_likes_13 rfl hv ?_
    clear hv
    refine ru_icmp_ge 106 ddX11_likes_14 (by decide) (fun hc => ?_) (fun hc => ?_)
    · rw [if_pos hc] at h
      refine ru_wk (L2 := [none, none, none, none, none, some (.int x5), none, none, none]) ⟨rfl, trivial⟩ ?_
      exact hk106 x5 h
    · rw [if_neg hc] at h
      refine ru_aload_n ddX11_likes_17 rfl ?_
      refine ru_iload ddX11_likes_18 rfl ?_
      refine ru_aload_n ddX11_likes_20 rfl ?_
      refine ru_iload_n ddX11_likes_21 rfl ?_
      refine ru_iconst (0 : Int32) ddX11_likes_22 rfl ?_
      obtain ⟨v2, hv, h⟩ := ruB_inv h
      refine ru_callVi (as := [.int x1, .int (0 : Int32)]) (st := [.int x6, rurf E 83]) ddX11_likes_23 cvX11_91 rfl (wX11_childOf 1 (Nat.le_refl _) x1 (0 : Int32) A hv) rfl (Nat.le_trans (m := 4) (by decide) hd) (Nat.le_of_ble_eq_true rfl) ?_
      clear hv
      refine ru_iload_n ddX11_likes_26 rfl ?_
      obtain ⟨v3, hv, h⟩ := ruB_inv h
      refine ru_callVi (as := [.int x6, .int v2, .int x2]) (st := []) ddX11_likes_27 cvX11_124 rfl (wX11_isOf 3 (Nat.le_refl _) x6 v2 x2 A hv) rfl (Nat.le_trans (m := 4) (by decide) hd) (Nat.le_of_ble_eq_true rfl) ?_
      clear hv
      refine ru_istore ddX11_likes_30 (by decide) rfl rfl ?_
      refine ru_iload_n ddX11_likes_32 rfl ?_
      refine ru_istore ddX11_likes_33 (by decide) rfl rfl ?_
      exact wX11_likes_l35 hd x1 x2 x3 x4 x5 x6 A (fun v7 h => by
            refine ru_iload ddX11_likes_82 rfl ?_
            refine ru_iload ddX11_likes_84 rfl ?_
            obtain ⟨v8, hq, h⟩ := ruB_inv h
            have J : ruW E mmX11_likes d Q 97 [some (rurf E 83), some (.int x1), some (.int x2), some (.int x3), some (.int x4), none, some (.int x6), none, none] [.int v8, .int x5] A := by
                refine ru_ior ddX11_likes_97 ?_
                refine ru_istore ddX11_likes_98 (by decide) rfl rfl ?_
                refine ru_iinc (x6 + (1 : Int32)) ddX11_likes_100 (by decide) rfl rfl rfl rfl ?_
                refine ru_goto 6 ddX11_likes_103 (by decide) ?_
                exact ih (x5 ||| v8) (x6 + (1 : Int32)) h
            replace h := hq
            clear hq
            refine ru_if_eq 96 ddX11_likes_86 (by decide) (fun hc => ?_) (fun hc => ?_)
            · rw [if_pos hc] at h
              refine ru_iconst (0 : Int32) ddX11_likes_96 rfl ?_
              refine ru_wk (L2 := [some (rurf E 83), some (.int x1), some (.int x2), some (.int x3), some (.int x4), none, some (.int x6), none, none]) ⟨rfl, rfl, rfl, rfl, rfl, rfl, trivial⟩ ?_
              obtain rfl := ruS1 h
              exact J
            · rw [if_neg hc] at h
              refine ru_iconst (1 : Int32) ddX11_likes_89 rfl ?_
              refine ru_iload ddX11_likes_90 rfl ?_
              refine ru_ishl ddX11_likes_92 ?_
              refine ru_goto 97 ddX11_likes_93 (by decide) ?_
              refine ru_wk (L2 := [some (rurf E 83), some (.int x1), some (.int x2), some (.int x3), some (.int x4), none, some (.int x6), none, none]) ⟨rfl, rfl, rfl, rfl, rfl, rfl, trivial⟩ ?_
              obtain rfl := ruS1 h
              exact J) ruF v3 x3 h
theorem wX11_likes {E : ruE} (d : Nat) (hd : 4 ≤ d) (x1 : Int32) (x2 : Int32) (x3 : Int32) (x4 : Int32) (A : ruA) {r : Int32} (h : fX11_likes x1 x2 x3 x4 A = some r) : ruC E mmX11_likes d [rurf E 83, .int x1, .int x2, .int x3, .int x4] A (ruPr r A) := by
  refine ruC.of (L := [some (rurf E 83), some (.int x1), some (.int x2), some (.int x3), some (.int x4), none, none, none, none]) (by decide) rfl (Nat.le_of_ble_eq_true rfl) rfl ?_
  unfold fX11_likes at h
  refine ru_iconst (0 : Int32) ddX11_likes_0 rfl ?_
  refine ru_istore ddX11_likes_1 (by decide) rfl rfl ?_
  refine ru_iconst (0 : Int32) ddX11_likes_3 rfl ?_
  refine ru_istore ddX11_likes_4 (by decide) rfl rfl ?_
  exact wX11_likes_l6 hd x1 x2 x3 x4 A (fun v9 h => by
        refine ru_iload ddX11_likes_106 rfl ?_
        exact ru_iretP ddX11_likes_108 rfl h) ruF (0 : Int32) (0 : Int32) h
theorem wX11_bits_l4 {E : ruE} {d : Nat} (hd : 1 ≤ d) {β : Type} {Q : Option Value → ruA → Prop} {res : β} (x0 : Int32) (A : ruA) {k24 : Int32 → Option (β)} (hk24 : ∀ (x1 : Int32), k24 x1 = some res → ruW E mmX11_bits d Q 24 [none, some (.int x1), none] [] A) : ∀ (n : Nat) (x1 : Int32) (x2 : Int32), fX11_bits_l4 x0 k24 n x1 x2 = some res → ruW E mmX11_bits d Q 4 [some (.int x0), some (.int x1), some (.int x2)] [] A := by
  intro n
  induction n with
  | zero =>
    intro x1 x2 h
    exact absurd h (by rw [fX11_bits_l4]; exact fun h => nomatch h)
  | succ n ih =>
    intro x1 x2 h
    rw [fX11_bits_l4] at h
    refine ru_iload_n ddX11_bits_4 rfl ?_
    refine ru_bipush (24 : Int32) ddX11_bits_5 rfl ?_
    refine ru_icmp_ge 24 ddX11_bits_7 (by decide) (fun hc => ?_) (fun hc => ?_)
    · rw [if_pos hc] at h
      refine ru_wk (L2 := [none, some (.int x1), none]) ⟨rfl, trivial⟩ ?_
      exact hk24 x1 h
    · rw [if_neg hc] at h
      refine ru_iload_n ddX11_bits_10 rfl ?_
      refine ru_iload_n ddX11_bits_11 rfl ?_
      refine ru_iload_n ddX11_bits_12 rfl ?_
      refine ru_ishr ddX11_bits_13 ?_
      refine ru_iconst (1 : Int32) ddX11_bits_14 rfl ?_
      refine ru_iand ddX11_bits_15 ?_
      refine ru_iadd ddX11_bits_16 ?_
      refine ru_istore_n ddX11_bits_17 (by decide) rfl rfl ?_
      refine ru_iinc (x2 + (1 : Int32)) ddX11_bits_18 (by decide) rfl rfl rfl rfl ?_
      refine ru_goto 4 ddX11_bits_21 (by decide) ?_
      exact ih (x1 + ((x0 >>> (x2 &&& 31)) &&& (1 : Int32))) (x2 + (1 : Int32)) h
theorem wX11_bits {E : ruE} (d : Nat) (hd : 1 ≤ d) (x0 : Int32) (A : ruA) {r : Int32} (h : fX11_bits x0 = some r) : ruC E mmX11_bits d [.int x0] A (ruPr r A) := by
  refine ruC.of (L := [some (.int x0), none, none]) (by decide) rfl (Nat.le_of_ble_eq_true rfl) rfl ?_
  unfold fX11_bits at h
  refine ru_iconst (0 : Int32) ddX11_bits_0 rfl ?_
  refine ru_istore_n ddX11_bits_1 (by decide) rfl rfl ?_
  refine ru_iconst (0 : Int32) ddX11_bits_2 rfl ?_
  refine ru_istore_n ddX11_bits_3 (by decide) rfl rfl ?_
  exact wX11_bits_l4 hd x0 A (fun v1 h => by
        refine ru_iload_n ddX11_bits_24 rfl ?_
        exact ru_iretP ddX11_bits_25 rfl h) ruF (0 : Int32) (0 : Int32) h
theorem wX11_findString_l47 {E : ruE} {d : Nat} (hd : 5 ≤ d) {β : Type} {Q : Option Value → ruA → Prop} {res : β} (x1 : Int32) (x2 : Int32) (x3 : Int32) (x4 : Int32) (x5 : Int32) {k196 : ruA → Option (β)} (hk196 : ∀ (A : ruA), k196 A = some res → ruW E mmX11_findString d Q 196 [some (rurf E 83), some (.int x1), some (.int x2), some (.int x3), some (.int x4), some (.int x5), none, none, none] [] A) : ∀ (n : Nat) (x6 : Int32) (A : ruA), fX11_findString_l47 x1 x2 x3 x4 x5 k196 n x6 A = some res → ruW E mmX11_findString d Q 47 [some (rurf E 83), some (.int x1), some (.int x2), some (.int x3), some (.int x4), some (.int x5), some (.int x6), none, none] [] A := by
  intro n
  induction n with
  | zero =>
    intro x6 A h
    exact absurd h (by rw [fX11_findString_l47]; exact fun h => nomatch h)
  | succ n ih =>
    intro x6 A h
    rw [fX11_findString_l47] at h
    refine ru_iload ddX11_findString_47 rfl ?_
    refine ru_aload_n ddX11_findString_49 rfl ?_
    refine ru_getR (r := 84) ddX11_findString_50 flX11_9 rfl rfl ?_
    refine ru_iconst (2 : Int32) ddX11_findString_53 rfl ?_
    obtain ⟨v4, hv, h⟩ := ruB_inv h
    refine ru_iald ddX11_findString_54 rfl hv ?_
    clear hv
    refine ru_icmp_ge 196 ddX11_findString_55 (by decide) (fun hc => ?_) (fun hc => ?_)
    · rw [if_pos hc] at h
      refine ru_wk (L2 := [some (rurf E 83), some (.int x1), some (.int x2), some (.int x3), some (.int x4), some (.int x5), none, none, none]) ⟨rfl, rfl, rfl, rfl, rfl, rfl, trivial⟩ ?_
      exact hk196 A h
    · rw [if_neg hc] at h
      refine ru_aload_n ddX11_findString_58 rfl ?_
      refine ru_iload ddX11_findString_59 rfl ?_
      refine ru_iload_n ddX11_findString_61 rfl ?_
      refine ru_iload_n ddX11_findString_62 rfl ?_
      obtain ⟨v5, hv, h⟩ := ruB_inv h
      refine ru_callVi (as := [.int x6, .int x1, .int x2]) (st := []) ddX11_findString_63 cvX11_124 rfl (wX11_isOf 3 (Nat.le_refl _) x6 x1 x2 A hv) rfl (Nat.le_trans (m := 5) (by decide) hd) (Nat.le_of_ble_eq_true rfl) ?_
      clear hv
      obtain ⟨A6, hq, h⟩ := ruB_inv h
      have J : ruW E mmX11_findString d Q 190 [some (rurf E 83), some (.int x1), some (.int x2), some (.int x3), some (.int x4), some (.int x5), some (.int x6), none, none] [] A6 := by
          refine ru_iinc (x6 + (1 : Int32)) ddX11_findString_190 (by decide) rfl rfl rfl rfl ?_
          refine ru_goto 47 ddX11_findString_193 (by decide) ?_
          exact ih (x6 + (1 : Int32)) A6 h
      replace h := hq
      clear hq
      refine ru_if_eq 190 ddX11_findString_66 (by decide) (fun hc => ?_) (fun hc => ?_)
      · rw [if_pos hc] at h
        obtain rfl := ruS1 h
        exact J
      · rw [if_neg hc] at h
        refine ru_aload_n ddX11_findString_69 rfl ?_
        refine ru_iload ddX11_findString_70 rfl ?_
        refine ru_iload_n ddX11_findString_72 rfl ?_
        refine ru_iload ddX11_findString_73 rfl ?_
        refine ru_iload ddX11_findString_75 rfl ?_
        obtain ⟨v7, hv, h⟩ := ruB_inv h
        refine ru_callVi (as := [.int x6, .int x2, .int x5, .int x4]) (st := []) ddX11_findString_77 cvX11_160 rfl (wX11_hasBlank 3 (Nat.le_refl _) x6 x2 x5 x4 A hv) rfl (Nat.le_trans (m := 5) (by decide) hd) (Nat.le_of_ble_eq_true rfl) ?_
        clear hv
        refine ru_if_ne 190 ddX11_findString_80 (by decide) (fun hc => ?_) (fun hc => ?_)
        · rw [if_neg hc] at h
          obtain rfl := ruS1 h
          exact J
        · rw [if_pos hc] at h
          refine ru_aload_n ddX11_findString_83 rfl ?_
          refine ru_iload ddX11_findString_84 rfl ?_
          refine ru_iload_n ddX11_findString_86 rfl ?_
          refine ru_iload ddX11_findString_87 rfl ?_
          refine ru_iload ddX11_findString_89 rfl ?_
          obtain ⟨v8, hv, h⟩ := ruB_inv h
          refine ru_callVi (as := [.int x6, .int x2, .int x5, .int x4]) (st := []) ddX11_findString_91 cvX11_163 rfl (wX11_likes 4 (Nat.le_refl _) x6 x2 x5 x4 A hv) rfl (Nat.le_trans (m := 5) (by decide) hd) (Nat.le_of_ble_eq_true rfl) ?_
          clear hv
          refine ru_istore ddX11_findString_94 (by decide) rfl rfl ?_
          refine ru_iload ddX11_findString_96 rfl ?_
          obtain ⟨v9, hv, h⟩ := ruB_inv h
          refine ru_callSi (as := [.int v8]) (st := []) ddX11_findString_98 csX11_167 (wX11_bits 1 (Nat.le_refl _) v8 A hv) rfl (Nat.le_trans (m := 5) (by decide) hd) (Nat.le_of_ble_eq_true rfl) ?_
          clear hv
          refine ru_iload_n ddX11_findString_101 rfl ?_
          obtain ⟨v10, hq, h⟩ := ruB_inv h
          have J : ruW E mmX11_findString d Q 165 [some (rurf E 83), some (.int x1), some (.int x2), some (.int x3), some (.int x4), some (.int x5), some (.int x6), some (.int v8), none] [.int v10] A := by
              refine ru_istore ddX11_findString_165 (by decide) rfl rfl ?_
              refine ru_iload ddX11_findString_167 rfl ?_
              refine ru_if_eq 190 ddX11_findString_169 (by decide) (fun hc => ?_) (fun hc => ?_)
              · rw [if_pos hc] at h
                refine ru_wk (L2 := [some (rurf E 83), some (.int x1), some (.int x2), some (.int x3), some (.int x4), some (.int x5), some (.int x6), none, none]) ⟨rfl, rfl, rfl, rfl, rfl, rfl, rfl, trivial⟩ ?_
                obtain rfl := ruS1 h
                exact J
              · rw [if_neg hc] at h
                refine ru_aload_n ddX11_findString_172 rfl ?_
                refine ru_iload ddX11_findString_173 rfl ?_
                obtain ⟨A15, hv, h⟩ := ruB_inv h
                refine ru_putI2 ddX11_findString_175 flX11_150 fp11_10 rfl hv ?_
                clear hv
                refine ru_aload_n ddX11_findString_178 rfl ?_
                refine ru_iload ddX11_findString_179 rfl ?_
                obtain ⟨A16, hv, h⟩ := ruB_inv h
                refine ru_putI2 ddX11_findString_181 flX11_154 fp11_11 rfl hv ?_
                clear hv
                refine ru_aload_n ddX11_findString_184 rfl ?_
                refine ru_iload ddX11_findString_185 rfl ?_
                obtain ⟨A17, hv, h⟩ := ruB_inv h
                refine ru_putI2 ddX11_findString_187 flX11_157 fp11_12 rfl hv ?_
                clear hv
                refine ru_wk (L2 := [some (rurf E 83), some (.int x1), some (.int x2), some (.int x3), some (.int x4), some (.int x5), some (.int x6), none, none]) ⟨rfl, rfl, rfl, rfl, rfl, rfl, rfl, trivial⟩ ?_
                obtain rfl := ruS1 h
                exact J
          replace h := hq
          clear hq
          refine ru_icmp_lt 164 ddX11_findString_102 (by decide) (fun hc => ?_) (fun hc => ?_)
          · rw [if_pos hc] at h
            refine ru_iconst (0 : Int32) ddX11_findString_164 rfl ?_
            obtain rfl := ruS1 h
            exact J
          · rw [if_neg hc] at h
            refine ru_aload_n ddX11_findString_105 rfl ?_
            refine ru_getI ddX11_findString_106 flX11_150 rfl ?_
            refine ru_if_eq 160 ddX11_findString_109 (by decide) (fun hc => ?_) (fun hc => ?_)
            · rw [if_pos hc] at h
              refine ru_iconst (1 : Int32) ddX11_findString_160 rfl ?_
              refine ru_goto 165 ddX11_findString_161 (by decide) ?_
              obtain rfl := ruS1 h
              exact J
            · rw [if_neg hc] at h
              refine ru_iload ddX11_findString_112 rfl ?_
              obtain ⟨v11, hv, h⟩ := ruB_inv h
              refine ru_callSi (as := [.int v8]) (st := []) ddX11_findString_114 csX11_167 (wX11_bits 1 (Nat.le_refl _) v8 A hv) rfl (Nat.le_trans (m := 5) (by decide) hd) (Nat.le_of_ble_eq_true rfl) ?_
              clear hv
              refine ru_aload_n ddX11_findString_117 rfl ?_
              refine ru_getI ddX11_findString_118 flX11_157 rfl ?_
              obtain ⟨v12, hv, h⟩ := ruB_inv h
              refine ru_callSi (as := [.int (A.1 83 12)]) (st := [.int v11]) ddX11_findString_121 csX11_167 (wX11_bits 1 (Nat.le_refl _) (A.1 83 12) A hv) rfl (Nat.le_trans (m := 5) (by decide) hd) (Nat.le_of_ble_eq_true rfl) ?_
              clear hv
              refine ru_icmp_gt 160 ddX11_findString_124 (by decide) (fun hc => ?_) (fun hc => ?_)
              · rw [if_pos hc] at h
                refine ru_iconst (1 : Int32) ddX11_findString_160 rfl ?_
                refine ru_goto 165 ddX11_findString_161 (by decide) ?_
                obtain rfl := ruS1 h
                exact J
              · rw [if_neg hc] at h
                refine ru_iload ddX11_findString_127 rfl ?_
                obtain ⟨v13, hv, h⟩ := ruB_inv h
                refine ru_callSi (as := [.int v8]) (st := []) ddX11_findString_129 csX11_167 (wX11_bits 1 (Nat.le_refl _) v8 A hv) rfl (Nat.le_trans (m := 5) (by decide) hd) (Nat.le_of_ble_eq_true rfl) ?_
                clear hv
                refine ru_aload_n ddX11_findString_132 rfl ?_
                refine ru_getI ddX11_findString_133 flX11_157 rfl ?_
                obtain ⟨v14, hv, h⟩ := ruB_inv h
                refine ru_callSi (as := [.int (A.1 83 12)]) (st := [.int v13]) ddX11_findString_136 csX11_167 (wX11_bits 1 (Nat.le_refl _) (A.1 83 12) A hv) rfl (Nat.le_trans (m := 5) (by decide) hd) (Nat.le_of_ble_eq_true rfl) ?_
                clear hv
                refine ru_icmp_ne 164 ddX11_findString_139 (by decide) (fun hc => ?_) (fun hc => ?_)
                · rw [if_neg hc] at h
                  refine ru_iconst (0 : Int32) ddX11_findString_164 rfl ?_
                  obtain rfl := ruS1 h
                  exact J
                · rw [if_pos hc] at h
                  refine ru_iload ddX11_findString_142 rfl ?_
                  refine ru_aload_n ddX11_findString_144 rfl ?_
                  refine ru_getI ddX11_findString_145 flX11_154 rfl ?_
                  refine ru_icmp_ne 164 ddX11_findString_148 (by decide) (fun hc => ?_) (fun hc => ?_)
                  · rw [if_neg hc] at h
                    refine ru_iconst (0 : Int32) ddX11_findString_164 rfl ?_
                    obtain rfl := ruS1 h
                    exact J
                  · rw [if_pos hc] at h
                    refine ru_iload ddX11_findString_151 rfl ?_
                    refine ru_aload_n ddX11_findString_153 rfl ?_
                    refine ru_getI ddX11_findString_154 flX11_157 rfl ?_
                    refine ru_icmp_ge 164 ddX11_findString_157 (by decide) (fun hc => ?_) (fun hc => ?_)
                    · rw [if_pos hc] at h
                      refine ru_iconst (0 : Int32) ddX11_findString_164 rfl ?_
                      obtain rfl := ruS1 h
                      exact J
                    · rw [if_neg hc] at h
                      refine ru_iconst (1 : Int32) ddX11_findString_160 rfl ?_
                      refine ru_goto 165 ddX11_findString_161 (by decide) ?_
                      obtain rfl := ruS1 h
                      exact J
theorem wX11_findString_l34 {E : ruE} {d : Nat} (hd : 5 ≤ d) {β : Type} {Q : Option Value → ruA → Prop} {res : β} (x1 : Int32) (x2 : Int32) (x3 : Int32) (x4 : Int32) {k202 : ruA → Option (β)} (hk202 : ∀ (A : ruA), k202 A = some res → ruW E mmX11_findString d Q 202 [some (rurf E 83), some (.int x1), some (.int x2), some (.int x3), some (.int x4), none, none, none, none] [] A) : ∀ (n : Nat) (x5 : Int32) (A : ruA), fX11_findString_l34 x1 x2 x3 x4 k202 n x5 A = some res → ruW E mmX11_findString d Q 34 [some (rurf E 83), some (.int x1), some (.int x2), some (.int x3), some (.int x4), some (.int x5), none, none, none] [] A := by
  intro n
  induction n with
  | zero =>
    intro x5 A h
    exact absurd h (by rw [fX11_findString_l34]; exact fun h => nomatch h)
  | succ n ih =>
    intro x5 A h
    rw [fX11_findString_l34] at h
    refine ru_iload ddX11_findString_34 rfl ?_
    refine ru_iload ddX11_findString_36 rfl ?_
    refine ru_iadd ddX11_findString_38 ?_
    refine ru_bipush (12 : Int32) ddX11_findString_39 rfl ?_
    refine ru_icmp_gt 202 ddX11_findString_41 (by decide) (fun hc => ?_) (fun hc => ?_)
    · rw [if_pos hc] at h
      refine ru_wk (L2 := [some (rurf E 83), some (.int x1), some (.int x2), some (.int x3), some (.int x4), none, none, none, none]) ⟨rfl, rfl, rfl, rfl, rfl, trivial⟩ ?_
      exact hk202 A h
    · rw [if_neg hc] at h
      refine ru_iconst (0 : Int32) ddX11_findString_44 rfl ?_
      refine ru_istore ddX11_findString_45 (by decide) rfl rfl ?_
      exact wX11_findString_l47 hd x1 x2 x3 x4 x5 (fun A18 h => by
            refine ru_iinc (x5 + (1 : Int32)) ddX11_findString_196 (by decide) rfl rfl rfl rfl ?_
            refine ru_goto 34 ddX11_findString_199 (by decide) ?_
            exact ih (x5 + (1 : Int32)) A18 h) ruF (0 : Int32) A h
theorem wX11_findString_l19 {E : ruE} {d : Nat} (hd : 5 ≤ d) {β : Type} {Q : Option Value → ruA → Prop} {res : β} (x1 : Int32) (x2 : Int32) (x3 : Int32) {k208 : ruA → Option (β)} (hk208 : ∀ (A : ruA), k208 A = some res → ruW E mmX11_findString d Q 208 [none, none, none, none, none, none, none, none, none] [] A) : ∀ (n : Nat) (x4 : Int32) (A : ruA), fX11_findString_l19 x1 x2 x3 k208 n x4 A = some res → ruW E mmX11_findString d Q 19 [some (rurf E 83), some (.int x1), some (.int x2), some (.int x3), some (.int x4), none, none, none, none] [] A := by
  intro n
  induction n with
  | zero =>
    intro x4 A h
    exact absurd h (by rw [fX11_findString_l19]; exact fun h => nomatch h)
  | succ n ih =>
    intro x4 A h
    rw [fX11_findString_l19] at h
    refine ru_iload ddX11_findString_19 rfl ?_
    refine ru_if_le 208 ddX11_findString_21 (by decide) (fun hc => ?_) (fun hc => ?_)
    · rw [if_pos hc] at h
      refine ru_wk (L2 := [none, none, none, none, none, none, none, none, none]) trivial ?_
      exact hk208 A h
    · rw [if_neg hc] at h
      refine ru_aload_n ddX11_findString_24 rfl ?_
      refine ru_getI ddX11_findString_25 flX11_150 rfl ?_
      refine ru_if_ne 208 ddX11_findString_28 (by decide) (fun hc => ?_) (fun hc => ?_)
      · rw [if_neg hc] at h
        refine ru_wk (L2 := [none, none, none, none, none, none, none, none, none]) trivial ?_
        exact hk208 A h
      · rw [if_pos hc] at h
        refine ru_iconst (0 : Int32) ddX11_findString_31 rfl ?_
        refine ru_istore ddX11_findString_32 (by decide) rfl rfl ?_
        exact wX11_findString_l34 hd x1 x2 x3 x4 (fun A19 h => by
              refine ru_iinc (x4 + (-1 : Int32)) ddX11_findString_202 (by decide) rfl rfl rfl rfl ?_
              refine ru_goto 19 ddX11_findString_205 (by decide) ?_
              exact ih (x4 + (-1 : Int32)) A19 h) ruF (0 : Int32) A h
theorem wX11_findString {E : ruE} (d : Nat) (hd : 5 ≤ d) (x1 : Int32) (x2 : Int32) (x3 : Int32) (A : ruA) {B : ruA} (h : fX11_findString x1 x2 x3 A = some B) : ruC E mmX11_findString d [rurf E 83, .int x1, .int x2, .int x3] A (ruPv B) := by
  refine ruC.of (L := [some (rurf E 83), some (.int x1), some (.int x2), some (.int x3), none, none, none, none, none]) (by decide) rfl (Nat.le_of_ble_eq_true rfl) rfl ?_
  unfold fX11_findString at h
  refine ru_aload_n ddX11_findString_0 rfl ?_
  refine ru_iconst (0 : Int32) ddX11_findString_1 rfl ?_
  obtain ⟨A1, hv, h⟩ := ruB_inv h
  refine ru_putI2 ddX11_findString_2 flX11_150 fp11_10 rfl hv ?_
  clear hv
  refine ru_aload_n ddX11_findString_5 rfl ?_
  refine ru_iconst (-1 : Int32) ddX11_findString_6 rfl ?_
  obtain ⟨A2, hv, h⟩ := ruB_inv h
  refine ru_putI2 ddX11_findString_7 flX11_154 fp11_11 rfl hv ?_
  clear hv
  refine ru_aload_n ddX11_findString_10 rfl ?_
  refine ru_iconst (0 : Int32) ddX11_findString_11 rfl ?_
  obtain ⟨A3, hv, h⟩ := ruB_inv h
  refine ru_putI2 ddX11_findString_12 flX11_157 fp11_12 rfl hv ?_
  clear hv
  refine ru_bipush (12 : Int32) ddX11_findString_15 rfl ?_
  refine ru_istore ddX11_findString_17 (by decide) rfl rfl ?_
  exact wX11_findString_l19 hd x1 x2 x3 (fun A20 h => by
        exact ru_vretW ddX11_findString_208 rfl h) ruF (12 : Int32) A3 h
theorem wX11_measured_l23 {E : ruE} {d : Nat} (hd : 6 ≤ d) {β : Type} {Q : Option Value → ruA → Prop} {res : β} (x1 : Int32) (x2 : Int32) (x3 : Int32) (A : ruA) {k193 : Int32 → Option (β)} (hk193 : ∀ (x4 : Int32), k193 x4 = some res → ruW E mmX11_measured d Q 193 [none, none, none, none, some (.int x4), none] [] A) : ∀ (n : Nat) (x4 : Int32) (x5 : Int32), fX11_measured_l23 x1 x2 x3 A k193 n x4 x5 = some res → ruW E mmX11_measured d Q 23 [some (rurf E 83), some (.int x1), some (.int x2), some (.int x3), some (.int x4), some (.int x5)] [] A := by
  intro n
  induction n with
  | zero =>
    intro x4 x5 h
    exact absurd h (by rw [fX11_measured_l23]; exact fun h => nomatch h)
  | succ n ih =>
    intro x4 x5 h
    rw [fX11_measured_l23] at h
    refine ru_iload ddX11_measured_23 rfl ?_
    refine ru_aload_n ddX11_measured_25 rfl ?_
    refine ru_getR (r := 84) ddX11_measured_26 flX11_9 rfl rfl ?_
    refine ru_iconst (2 : Int32) ddX11_measured_29 rfl ?_
    obtain ⟨v1, hv, h⟩ := ruB_inv h
    refine ru_iald ddX11_measured_30 rfl hv ?_
    clear hv
    refine ru_icmp_ge 193 ddX11_measured_31 (by decide) (fun hc => ?_) (fun hc => ?_)
    · rw [if_pos hc] at h
      refine ru_wk (L2 := [none, none, none, none, some (.int x4), none]) ⟨rfl, trivial⟩ ?_
      exact hk193 x4 h
    · rw [if_neg hc] at h
      refine ru_aload_n ddX11_measured_34 rfl ?_
      refine ru_iload ddX11_measured_35 rfl ?_
      refine ru_iload_n ddX11_measured_37 rfl ?_
      refine ru_iload_n ddX11_measured_38 rfl ?_
      obtain ⟨v2, hv, h⟩ := ruB_inv h
      refine ru_callVi (as := [.int x5, .int x1, .int x2]) (st := []) ddX11_measured_39 cvX11_124 rfl (wX11_isOf 3 (Nat.le_refl _) x5 x1 x2 A hv) rfl (Nat.le_trans (m := 6) (by decide) hd) (Nat.le_of_ble_eq_true rfl) ?_
      clear hv
      obtain ⟨v3, hq, h⟩ := ruB_inv h
      have J : ruW E mmX11_measured d Q 187 [some (rurf E 83), some (.int x1), some (.int x2), some (.int x3), some (.int v3), some (.int x5)] [] A := by
          refine ru_iinc (x5 + (1 : Int32)) ddX11_measured_187 (by decide) rfl rfl rfl rfl ?_
          refine ru_goto 23 ddX11_measured_190 (by decide) ?_
          exact ih v3 (x5 + (1 : Int32)) h
      replace h := hq
      clear hq
      refine ru_if_eq 187 ddX11_measured_42 (by decide) (fun hc => ?_) (fun hc => ?_)
      · rw [if_pos hc] at h
        refine ru_wk (L2 := [some (rurf E 83), some (.int x1), some (.int x2), some (.int x3), some (.int x4), some (.int x5)]) ⟨rfl, rfl, rfl, rfl, rfl, rfl, trivial⟩ ?_
        obtain rfl := ruS1 h
        exact J
      · rw [if_neg hc] at h
        refine ru_iload_n ddX11_measured_45 rfl ?_
        by_cases hc0 : x3 = (0 : Int32)
        · rw [if_pos hc0] at h
          refine ru_tabC 84 ddX11_measured_46 hc0 ⟨by decide, by decide, _, rfl, by decide⟩ ?_
          refine ru_iload ddX11_measured_84 rfl ?_
          refine ru_aload_n ddX11_measured_86 rfl ?_
          refine ru_getR (r := 84) ddX11_measured_87 flX11_9 rfl rfl ?_
          refine ru_iload ddX11_measured_90 rfl ?_
          refine ru_iload_n ddX11_measured_92 rfl ?_
          obtain ⟨v4, hv, h⟩ := ruB_inv h
          refine ru_callSi (as := [.int x5, .int x2]) (st := [rurf E 84, .int x4]) ddX11_measured_93 csX11_70 (wX11_sheetAt 1 (Nat.le_refl _) x5 x2 A hv) rfl (Nat.le_trans (m := 6) (by decide) hd) (Nat.le_of_ble_eq_true rfl) ?_
          clear hv
          refine ru_bipush (25 : Int32) ddX11_measured_96 rfl ?_
          refine ru_iadd ddX11_measured_98 ?_
          refine ru_iload_n ddX11_measured_99 rfl ?_
          refine ru_iadd ddX11_measured_100 ?_
          obtain ⟨v5, hv, h⟩ := ruB_inv h
          refine ru_iald ddX11_measured_101 rfl hv ?_
          clear hv
          refine ru_iadd ddX11_measured_102 ?_
          refine ru_istore ddX11_measured_103 (by decide) rfl rfl ?_
          refine ru_goto 187 ddX11_measured_105 (by decide) ?_
          refine ru_wk (L2 := [some (rurf E 83), some (.int x1), some (.int x2), some (.int x3), some (.int (x4 + v5)), some (.int x5)]) ⟨rfl, rfl, rfl, rfl, rfl, rfl, trivial⟩ ?_
          obtain rfl := ruS1 h
          exact J
        · rw [if_neg hc0] at h
          by_cases hc1 : x3 = (1 : Int32)
          · rw [if_pos hc1] at h
            refine ru_tabC 84 ddX11_measured_46 hc1 ⟨by decide, by decide, _, rfl, by decide⟩ ?_
            refine ru_iload ddX11_measured_84 rfl ?_
            refine ru_aload_n ddX11_measured_86 rfl ?_
            refine ru_getR (r := 84) ddX11_measured_87 flX11_9 rfl rfl ?_
            refine ru_iload ddX11_measured_90 rfl ?_
            refine ru_iload_n ddX11_measured_92 rfl ?_
            obtain ⟨v6, hv, h⟩ := ruB_inv h
            refine ru_callSi (as := [.int x5, .int x2]) (st := [rurf E 84, .int x4]) ddX11_measured_93 csX11_70 (wX11_sheetAt 1 (Nat.le_refl _) x5 x2 A hv) rfl (Nat.le_trans (m := 6) (by decide) hd) (Nat.le_of_ble_eq_true rfl) ?_
            clear hv
            refine ru_bipush (25 : Int32) ddX11_measured_96 rfl ?_
            refine ru_iadd ddX11_measured_98 ?_
            refine ru_iload_n ddX11_measured_99 rfl ?_
            refine ru_iadd ddX11_measured_100 ?_
            obtain ⟨v7, hv, h⟩ := ruB_inv h
            refine ru_iald ddX11_measured_101 rfl hv ?_
            clear hv
            refine ru_iadd ddX11_measured_102 ?_
            refine ru_istore ddX11_measured_103 (by decide) rfl rfl ?_
            refine ru_goto 187 ddX11_measured_105 (by decide) ?_
            refine ru_wk (L2 := [some (rurf E 83), some (.int x1), some (.int x2), some (.int x3), some (.int (x4 + v7)), some (.int x5)]) ⟨rfl, rfl, rfl, rfl, rfl, rfl, trivial⟩ ?_
            obtain rfl := ruS1 h
            exact J
          · rw [if_neg hc1] at h
            by_cases hc2 : x3 = (2 : Int32)
            · rw [if_pos hc2] at h
              refine ru_tabC 175 ddX11_measured_46 hc2 ⟨by decide, by decide, _, rfl, by decide⟩ ?_
              refine ru_iload ddX11_measured_175 rfl ?_
              refine ru_aload_n ddX11_measured_177 rfl ?_
              refine ru_iload ddX11_measured_178 rfl ?_
              refine ru_iload_n ddX11_measured_180 rfl ?_
              obtain ⟨v8, hv, h⟩ := ruB_inv h
              refine ru_callVi (as := [.int x5, .int x2]) (st := [.int x4]) ddX11_measured_181 cvX11_140 rfl (wX11_putsOn 3 (Nat.le_refl _) x5 x2 A hv) rfl (Nat.le_trans (m := 6) (by decide) hd) (Nat.le_of_ble_eq_true rfl) ?_
              clear hv
              refine ru_iadd ddX11_measured_184 ?_
              refine ru_istore ddX11_measured_185 (by decide) rfl rfl ?_
              refine ru_wk (L2 := [some (rurf E 83), some (.int x1), some (.int x2), some (.int x3), some (.int (x4 + v8)), some (.int x5)]) ⟨rfl, rfl, rfl, rfl, rfl, rfl, trivial⟩ ?_
              obtain rfl := ruS1 h
              exact J
            · rw [if_neg hc2] at h
              by_cases hc3 : x3 = (3 : Int32)
              · rw [if_pos hc3] at h
                refine ru_tabC 108 ddX11_measured_46 hc3 ⟨by decide, by decide, _, rfl, by decide⟩ ?_
                refine ru_iload ddX11_measured_108 rfl ?_
                refine ru_aload_n ddX11_measured_110 rfl ?_
                refine ru_iload ddX11_measured_111 rfl ?_
                refine ru_iload_n ddX11_measured_113 rfl ?_
                obtain ⟨v9, hv, h⟩ := ruB_inv h
                refine ru_callVi (as := [.int x5, .int x2]) (st := [.int x4]) ddX11_measured_114 cvX11_137 rfl (wX11_unfit 4 (Nat.le_refl _) x5 x2 A hv) rfl (Nat.le_trans (m := 6) (by decide) hd) (Nat.le_of_ble_eq_true rfl) ?_
                clear hv
                refine ru_iadd ddX11_measured_117 ?_
                refine ru_istore ddX11_measured_118 (by decide) rfl rfl ?_
                refine ru_goto 187 ddX11_measured_120 (by decide) ?_
                refine ru_wk (L2 := [some (rurf E 83), some (.int x1), some (.int x2), some (.int x3), some (.int (x4 + v9)), some (.int x5)]) ⟨rfl, rfl, rfl, rfl, rfl, rfl, trivial⟩ ?_
                obtain rfl := ruS1 h
                exact J
              · rw [if_neg hc3] at h
                by_cases hc4 : x3 = (4 : Int32)
                · rw [if_pos hc4] at h
                  refine ru_tabC 123 ddX11_measured_46 hc4 ⟨by decide, by decide, _, rfl, by decide⟩ ?_
                  refine ru_iload ddX11_measured_123 rfl ?_
                  refine ru_iload_n ddX11_measured_125 rfl ?_
                  refine ru_iconst (5 : Int32) ddX11_measured_126 rfl ?_
                  obtain ⟨v10, hq, h⟩ := ruB_inv h
                  have J : ruW E mmX11_measured d Q 163 [some (rurf E 83), some (.int x1), some (.int x2), some (.int x3), none, some (.int x5)] [.int v10, .int x4] A := by
                      refine ru_iadd ddX11_measured_163 ?_
                      refine ru_istore ddX11_measured_164 (by decide) rfl rfl ?_
                      refine ru_goto 187 ddX11_measured_166 (by decide) ?_
                      refine ru_wk (L2 := [some (rurf E 83), some (.int x1), some (.int x2), some (.int x3), some (.int (x4 + v10)), some (.int x5)]) ⟨rfl, rfl, rfl, rfl, rfl, rfl, trivial⟩ ?_
                      obtain rfl := ruS1 h
                      exact J
                  replace h := hq
                  clear hq
                  refine ru_icmp_ge 162 ddX11_measured_127 (by decide) (fun hc => ?_) (fun hc => ?_)
                  · rw [if_pos hc] at h
                    refine ru_iconst (0 : Int32) ddX11_measured_162 rfl ?_
                    refine ru_wk (L2 := [some (rurf E 83), some (.int x1), some (.int x2), some (.int x3), none, some (.int x5)]) ⟨rfl, rfl, rfl, rfl, rfl, trivial⟩ ?_
                    obtain rfl := ruS1 h
                    exact J
                  · rw [if_neg hc] at h
                    refine ru_aload_n ddX11_measured_130 rfl ?_
                    refine ru_iload ddX11_measured_131 rfl ?_
                    refine ru_iload_n ddX11_measured_133 rfl ?_
                    refine ru_iconst (1 : Int32) ddX11_measured_134 rfl ?_
                    refine ru_iadd ddX11_measured_135 ?_
                    obtain ⟨v11, hv, h⟩ := ruB_inv h
                    refine ru_callVi (as := [.int x5, .int (x2 + (1 : Int32))]) (st := [.int x4]) ddX11_measured_136 cvX11_98 rfl (wX11_hasSheet 2 (Nat.le_refl _) x5 (x2 + (1 : Int32)) A hv) rfl (Nat.le_trans (m := 6) (by decide) hd) (Nat.le_of_ble_eq_true rfl) ?_
                    clear hv
                    refine ru_if_eq 162 ddX11_measured_139 (by decide) (fun hc => ?_) (fun hc => ?_)
                    · rw [if_pos hc] at h
                      refine ru_iconst (0 : Int32) ddX11_measured_162 rfl ?_
                      refine ru_wk (L2 := [some (rurf E 83), some (.int x1), some (.int x2), some (.int x3), none, some (.int x5)]) ⟨rfl, rfl, rfl, rfl, rfl, trivial⟩ ?_
                      obtain rfl := ruS1 h
                      exact J
                    · rw [if_neg hc] at h
                      refine ru_aload_n ddX11_measured_142 rfl ?_
                      refine ru_iload ddX11_measured_143 rfl ?_
                      refine ru_iload_n ddX11_measured_145 rfl ?_
                      obtain ⟨v12, hv, h⟩ := ruB_inv h
                      refine ru_callVi (as := [.int x5, .int x2]) (st := [.int x4]) ddX11_measured_146 cvX11_112 rfl (wX11_rights 4 (Nat.le_refl _) x5 x2 A hv) rfl (Nat.le_trans (m := 6) (by decide) hd) (Nat.le_of_ble_eq_true rfl) ?_
                      clear hv
                      refine ru_aload_n ddX11_measured_149 rfl ?_
                      refine ru_iload ddX11_measured_150 rfl ?_
                      refine ru_iload_n ddX11_measured_152 rfl ?_
                      refine ru_iconst (1 : Int32) ddX11_measured_153 rfl ?_
                      refine ru_iadd ddX11_measured_154 ?_
                      obtain ⟨v13, hv, h⟩ := ruB_inv h
                      refine ru_callVi (as := [.int x5, .int (x2 + (1 : Int32))]) (st := [.int v12, .int x4]) ddX11_measured_155 cvX11_112 rfl (wX11_rights 4 (Nat.le_refl _) x5 (x2 + (1 : Int32)) A hv) rfl (Nat.le_trans (m := 6) (by decide) hd) (Nat.le_of_ble_eq_true rfl) ?_
                      clear hv
                      refine ru_isub ddX11_measured_158 ?_
                      refine ru_goto 163 ddX11_measured_159 (by decide) ?_
                      refine ru_wk (L2 := [some (rurf E 83), some (.int x1), some (.int x2), some (.int x3), none, some (.int x5)]) ⟨rfl, rfl, rfl, rfl, rfl, trivial⟩ ?_
                      obtain rfl := ruS1 h
                      exact J
                · rw [if_neg hc4] at h
                  by_cases hc5 : x3 = (5 : Int32)
                  · rw [if_pos hc5] at h
                    refine ru_tabC 169 ddX11_measured_46 hc5 ⟨by decide, by decide, _, rfl, by decide⟩ ?_
                    refine ru_iinc (x4 + (1 : Int32)) ddX11_measured_169 (by decide) rfl rfl rfl rfl ?_
                    refine ru_goto 187 ddX11_measured_172 (by decide) ?_
                    refine ru_wk (L2 := [some (rurf E 83), some (.int x1), some (.int x2), some (.int x3), some (.int (x4 + (1 : Int32))), some (.int x5)]) ⟨rfl, rfl, rfl, rfl, rfl, rfl, trivial⟩ ?_
                    obtain rfl := ruS1 h
                    exact J
                  · rw [if_neg hc5] at h
                    refine ru_tabD 175 ddX11_measured_46 (fun j h9 => ?_) (by decide) ?_
                    · have h8 : j = 0 ∨ j = 1 ∨ j = 2 ∨ j = 3 ∨ j = 4 ∨ j = 5 := by omega
                      rcases h8 with rfl | rfl | rfl | rfl | rfl | rfl
                      · exact fun e => hc0 (e.trans (by decide))
                      · exact fun e => hc1 (e.trans (by decide))
                      · exact fun e => hc2 (e.trans (by decide))
                      · exact fun e => hc3 (e.trans (by decide))
                      · exact fun e => hc4 (e.trans (by decide))
                      · exact fun e => hc5 (e.trans (by decide))
                    refine ru_iload ddX11_measured_175 rfl ?_
                    refine ru_aload_n ddX11_measured_177 rfl ?_
                    refine ru_iload ddX11_measured_178 rfl ?_
                    refine ru_iload_n ddX11_measured_180 rfl ?_
                    obtain ⟨v14, hv, h⟩ := ruB_inv h
                    refine ru_callVi (as := [.int x5, .int x2]) (st := [.int x4]) ddX11_measured_181 cvX11_140 rfl (wX11_putsOn 3 (Nat.le_refl _) x5 x2 A hv) rfl (Nat.le_trans (m := 6) (by decide) hd) (Nat.le_of_ble_eq_true rfl) ?_
                    clear hv
                    refine ru_iadd ddX11_measured_184 ?_
                    refine ru_istore ddX11_measured_185 (by decide) rfl rfl ?_
                    refine ru_wk (L2 := [some (rurf E 83), some (.int x1), some (.int x2), some (.int x3), some (.int (x4 + v14)), some (.int x5)]) ⟨rfl, rfl, rfl, rfl, rfl, rfl, trivial⟩ ?_
                    obtain rfl := ruS1 h
                    exact J
theorem wX11_measured {E : ruE} (d : Nat) (hd : 6 ≤ d) (x1 : Int32) (x2 : Int32) (x3 : Int32) (A : ruA) {r : Int32} {B : ruA} (h : fX11_measured x1 x2 x3 A = some (r, B)) : ruC E mmX11_measured d [rurf E 83, .int x1, .int x2, .int x3] A (ruPr r B) := by
  refine ruC.of (L := [some (rurf E 83), some (.int x1), some (.int x2), some (.int x3), none, none]) (by decide) rfl (Nat.le_of_ble_eq_true rfl) rfl ?_
  unfold fX11_measured at h
  refine ru_iload_n ddX11_measured_0 rfl ?_
  refine ru_iconst (2 : Int32) ddX11_measured_1 rfl ?_
  refine ru_icmp_ne 17 ddX11_measured_2 (by decide) (fun hc => ?_) (fun hc => ?_)
  · rw [if_neg hc] at h
    refine ru_iconst (0 : Int32) ddX11_measured_17 rfl ?_
    refine ru_istore ddX11_measured_18 (by decide) rfl rfl ?_
    refine ru_iconst (0 : Int32) ddX11_measured_20 rfl ?_
    refine ru_istore ddX11_measured_21 (by decide) rfl rfl ?_
    exact wX11_measured_l23 hd x1 x2 x3 A (fun v15 h => by
          refine ru_iload ddX11_measured_193 rfl ?_
          exact ru_iretW ddX11_measured_195 rfl h) ruF (0 : Int32) (0 : Int32) h
  · rw [if_pos hc] at h
    refine ru_aload_n ddX11_measured_5 rfl ?_
    refine ru_iload_n ddX11_measured_6 rfl ?_
    refine ru_iload_n ddX11_measured_7 rfl ?_
    refine ru_iconst (3 : Int32) ddX11_measured_8 rfl ?_
    obtain ⟨A16, hv, h⟩ := ruB_inv h
    refine ru_callVv (as := [.int x1, .int x2, .int (3 : Int32)]) (st := []) ddX11_measured_9 cvX11_170 rfl (wX11_findString 5 (Nat.le_refl _) x1 x2 (3 : Int32) A hv) rfl (Nat.le_trans (m := 6) (by decide) hd) (Nat.le_of_ble_eq_true rfl) ?_
    clear hv
    refine ru_aload_n ddX11_measured_12 rfl ?_
    refine ru_getI ddX11_measured_13 flX11_150 rfl ?_
    exact ru_iretW ddX11_measured_16 rfl h
theorem wX11_measure {E : ruE} (d : Nat) (hd : 7 ≤ d) (x1 : Int32) (x2 : Int32) (x3 : Int32) (A : ruA) {r : Int32} {B : ruA} (h : fX11_measure x1 x2 x3 A = some (r, B)) : ruC E mmX11_measure d [rurf E 83, .int x1, .int x2, .int x3] A (ruPr r B) := by
  refine ruC.of (L := [some (rurf E 83), some (.int x1), some (.int x2), some (.int x3)]) (by decide) rfl (Nat.le_of_ble_eq_true rfl) rfl ?_
  unfold fX11_measure at h
  refine ru_aload_n ddX11_measure_0 rfl ?_
  refine ru_iload_n ddX11_measure_1 rfl ?_
  refine ru_iconst (1 : Int32) ddX11_measure_2 rfl ?_
  obtain ⟨v1, hv, h⟩ := ruB_inv h
  refine ru_callVi (as := [.int x1, .int (1 : Int32)]) (st := []) ddX11_measure_3 cvX11_87 rfl (wX11_is 2 (Nat.le_refl _) x1 (1 : Int32) A hv) rfl (Nat.le_trans (m := 7) (by decide) hd) (Nat.le_of_ble_eq_true rfl) ?_
  clear hv
  refine ru_if_eq 26 ddX11_measure_6 (by decide) (fun hc => ?_) (fun hc => ?_)
  · rw [if_pos hc] at h
    refine ru_aload_n ddX11_measure_26 rfl ?_
    refine ru_ldc (v := (-1000001 : Int32)) ddX11_measure_27 ckX11_65 ?_
    obtain ⟨v2, A3, hv, h⟩ := ruB2_inv h
    refine ru_callVi (as := [.int (-1000001 : Int32)]) (st := []) ddX11_measure_29 cvX11_82 rfl (wX11_finding 1 (Nat.le_refl _) (-1000001 : Int32) A hv) rfl (Nat.le_trans (m := 7) (by decide) hd) (Nat.le_of_ble_eq_true rfl) ?_
    clear hv
    exact ru_iretW ddX11_measure_32 rfl h
  · rw [if_neg hc] at h
    refine ru_iload_n ddX11_measure_9 rfl ?_
    obtain ⟨v4, hv, h⟩ := ruB_inv h
    refine ru_callSi (as := [.int x2]) (st := []) ddX11_measure_10 csX11_128 (wX11_isYear 2 (Nat.le_refl _) x2 A hv) rfl (Nat.le_trans (m := 7) (by decide) hd) (Nat.le_of_ble_eq_true rfl) ?_
    clear hv
    refine ru_if_eq 26 ddX11_measure_13 (by decide) (fun hc => ?_) (fun hc => ?_)
    · rw [if_pos hc] at h
      refine ru_aload_n ddX11_measure_26 rfl ?_
      refine ru_ldc (v := (-1000001 : Int32)) ddX11_measure_27 ckX11_65 ?_
      obtain ⟨v5, A6, hv, h⟩ := ruB2_inv h
      refine ru_callVi (as := [.int (-1000001 : Int32)]) (st := []) ddX11_measure_29 cvX11_82 rfl (wX11_finding 1 (Nat.le_refl _) (-1000001 : Int32) A hv) rfl (Nat.le_trans (m := 7) (by decide) hd) (Nat.le_of_ble_eq_true rfl) ?_
      clear hv
      exact ru_iretW ddX11_measure_32 rfl h
    · rw [if_neg hc] at h
      refine ru_iload_n ddX11_measure_16 rfl ?_
      refine ru_iconst (0 : Int32) ddX11_measure_17 rfl ?_
      refine ru_bipush (6 : Int32) ddX11_measure_18 rfl ?_
      obtain ⟨v7, hv, h⟩ := ruB_inv h
      refine ru_callSi (as := [.int x3, .int (0 : Int32), .int (6 : Int32)]) (st := []) ddX11_measure_20 csX11_66 (wX11_within 1 (Nat.le_refl _) x3 (0 : Int32) (6 : Int32) A hv) rfl (Nat.le_trans (m := 7) (by decide) hd) (Nat.le_of_ble_eq_true rfl) ?_
      clear hv
      refine ru_if_ne 33 ddX11_measure_23 (by decide) (fun hc => ?_) (fun hc => ?_)
      · rw [if_neg hc] at h
        refine ru_aload_n ddX11_measure_33 rfl ?_
        refine ru_iload_n ddX11_measure_34 rfl ?_
        refine ru_iload_n ddX11_measure_35 rfl ?_
        obtain ⟨v8, hv, h⟩ := ruB_inv h
        refine ru_callVi (as := [.int x1, .int x2]) (st := []) ddX11_measure_36 cvX11_174 rfl (wX11_sheetsOf 4 (Nat.le_refl _) x1 x2 A hv) rfl (Nat.le_trans (m := 7) (by decide) hd) (Nat.le_of_ble_eq_true rfl) ?_
        clear hv
        refine ru_if_ne 49 ddX11_measure_39 (by decide) (fun hc => ?_) (fun hc => ?_)
        · rw [if_neg hc] at h
          refine ru_aload_n ddX11_measure_49 rfl ?_
          refine ru_dup ddX11_measure_50 rfl ?_
          refine ru_getI ddX11_measure_51 flX11_177 rfl ?_
          refine ru_iconst (1 : Int32) ddX11_measure_54 rfl ?_
          refine ru_iadd ddX11_measure_55 ?_
          obtain ⟨A9, hv, h⟩ := ruB_inv h
          refine ru_putI2 ddX11_measure_56 flX11_177 fp11_3 rfl hv ?_
          clear hv
          refine ru_aload_n ddX11_measure_59 rfl ?_
          refine ru_iload_n ddX11_measure_60 rfl ?_
          refine ru_iload_n ddX11_measure_61 rfl ?_
          refine ru_iload_n ddX11_measure_62 rfl ?_
          obtain ⟨v10, A11, hv, h⟩ := ruB2_inv h
          refine ru_callVi (as := [.int x1, .int x2, .int x3]) (st := []) ddX11_measure_63 cvX11_180 rfl (wX11_measured 6 (Nat.le_refl _) x1 x2 x3 A9 hv) rfl (Nat.le_trans (m := 7) (by decide) hd) (Nat.le_of_ble_eq_true rfl) ?_
          clear hv
          exact ru_iretW ddX11_measure_66 rfl h
        · rw [if_pos hc] at h
          refine ru_aload_n ddX11_measure_42 rfl ?_
          refine ru_ldc (v := (-1000004 : Int32)) ddX11_measure_43 ckX11_127 ?_
          obtain ⟨v12, A13, hv, h⟩ := ruB2_inv h
          refine ru_callVi (as := [.int (-1000004 : Int32)]) (st := []) ddX11_measure_45 cvX11_82 rfl (wX11_finding 1 (Nat.le_refl _) (-1000004 : Int32) A hv) rfl (Nat.le_trans (m := 7) (by decide) hd) (Nat.le_of_ble_eq_true rfl) ?_
          clear hv
          exact ru_iretW ddX11_measure_48 rfl h
      · rw [if_pos hc] at h
        refine ru_aload_n ddX11_measure_26 rfl ?_
        refine ru_ldc (v := (-1000001 : Int32)) ddX11_measure_27 ckX11_65 ?_
        obtain ⟨v14, A15, hv, h⟩ := ruB2_inv h
        refine ru_callVi (as := [.int (-1000001 : Int32)]) (st := []) ddX11_measure_29 cvX11_82 rfl (wX11_finding 1 (Nat.le_refl _) (-1000001 : Int32) A hv) rfl (Nat.le_trans (m := 7) (by decide) hd) (Nat.le_of_ble_eq_true rfl) ?_
        clear hv
        exact ru_iretW ddX11_measure_32 rfl h
theorem wX11_looked {E : ruE} (d : Nat) (hd : 1 ≤ d) (A : ruA) {r : Int32} (h : fX11_looked A = some r) : ruC E mmX11_looked d [rurf E 83] A (ruPr r A) := by
  refine ruC.of (L := [some (rurf E 83)]) (by decide) rfl (Nat.le_of_ble_eq_true rfl) rfl ?_
  unfold fX11_looked at h
  refine ru_aload_n ddX11_looked_0 rfl ?_
  refine ru_getI ddX11_looked_1 flX11_177 rfl ?_
  exact ru_iretP ddX11_looked_4 rfl h
theorem wX11_string {E : ruE} (d : Nat) (hd : 6 ≤ d) (x1 : Int32) (x2 : Int32) (x3 : Int32) (x4 : Int32) (A : ruA) {r : Int32} {B : ruA} (h : fX11_string x1 x2 x3 x4 A = some (r, B)) : ruC E mmX11_string d [rurf E 83, .int x1, .int x2, .int x3, .int x4] A (ruPr r B) := by
  refine ruC.of (L := [some (rurf E 83), some (.int x1), some (.int x2), some (.int x3), some (.int x4)]) (by decide) rfl (Nat.le_of_ble_eq_true rfl) rfl ?_
  unfold fX11_string at h
  refine ru_aload_n ddX11_string_0 rfl ?_
  refine ru_iload_n ddX11_string_1 rfl ?_
  refine ru_iconst (1 : Int32) ddX11_string_2 rfl ?_
  obtain ⟨v1, hv, h⟩ := ruB_inv h
  refine ru_callVi (as := [.int x1, .int (1 : Int32)]) (st := []) ddX11_string_3 cvX11_87 rfl (wX11_is 2 (Nat.le_refl _) x1 (1 : Int32) A hv) rfl (Nat.le_trans (m := 6) (by decide) hd) (Nat.le_of_ble_eq_true rfl) ?_
  clear hv
  refine ru_if_eq 36 ddX11_string_6 (by decide) (fun hc => ?_) (fun hc => ?_)
  · rw [if_pos hc] at h
    refine ru_aload_n ddX11_string_36 rfl ?_
    refine ru_ldc (v := (-1000001 : Int32)) ddX11_string_37 ckX11_65 ?_
    obtain ⟨v2, A3, hv, h⟩ := ruB2_inv h
    refine ru_callVi (as := [.int (-1000001 : Int32)]) (st := []) ddX11_string_39 cvX11_82 rfl (wX11_finding 1 (Nat.le_refl _) (-1000001 : Int32) A hv) rfl (Nat.le_trans (m := 6) (by decide) hd) (Nat.le_of_ble_eq_true rfl) ?_
    clear hv
    exact ru_iretW ddX11_string_42 rfl h
  · rw [if_neg hc] at h
    refine ru_iload_n ddX11_string_9 rfl ?_
    obtain ⟨v4, hv, h⟩ := ruB_inv h
    refine ru_callSi (as := [.int x2]) (st := []) ddX11_string_10 csX11_128 (wX11_isYear 2 (Nat.le_refl _) x2 A hv) rfl (Nat.le_trans (m := 6) (by decide) hd) (Nat.le_of_ble_eq_true rfl) ?_
    clear hv
    refine ru_if_eq 36 ddX11_string_13 (by decide) (fun hc => ?_) (fun hc => ?_)
    · rw [if_pos hc] at h
      refine ru_aload_n ddX11_string_36 rfl ?_
      refine ru_ldc (v := (-1000001 : Int32)) ddX11_string_37 ckX11_65 ?_
      obtain ⟨v5, A6, hv, h⟩ := ruB2_inv h
      refine ru_callVi (as := [.int (-1000001 : Int32)]) (st := []) ddX11_string_39 cvX11_82 rfl (wX11_finding 1 (Nat.le_refl _) (-1000001 : Int32) A hv) rfl (Nat.le_trans (m := 6) (by decide) hd) (Nat.le_of_ble_eq_true rfl) ?_
      clear hv
      exact ru_iretW ddX11_string_42 rfl h
    · rw [if_neg hc] at h
      refine ru_iload_n ddX11_string_16 rfl ?_
      refine ru_iconst (2 : Int32) ddX11_string_17 rfl ?_
      refine ru_bipush (9 : Int32) ddX11_string_18 rfl ?_
      obtain ⟨v7, hv, h⟩ := ruB_inv h
      refine ru_callSi (as := [.int x3, .int (2 : Int32), .int (9 : Int32)]) (st := []) ddX11_string_20 csX11_66 (wX11_within 1 (Nat.le_refl _) x3 (2 : Int32) (9 : Int32) A hv) rfl (Nat.le_trans (m := 6) (by decide) hd) (Nat.le_of_ble_eq_true rfl) ?_
      clear hv
      refine ru_if_eq 36 ddX11_string_23 (by decide) (fun hc => ?_) (fun hc => ?_)
      · rw [if_pos hc] at h
        refine ru_aload_n ddX11_string_36 rfl ?_
        refine ru_ldc (v := (-1000001 : Int32)) ddX11_string_37 ckX11_65 ?_
        obtain ⟨v8, A9, hv, h⟩ := ruB2_inv h
        refine ru_callVi (as := [.int (-1000001 : Int32)]) (st := []) ddX11_string_39 cvX11_82 rfl (wX11_finding 1 (Nat.le_refl _) (-1000001 : Int32) A hv) rfl (Nat.le_trans (m := 6) (by decide) hd) (Nat.le_of_ble_eq_true rfl) ?_
        clear hv
        exact ru_iretW ddX11_string_42 rfl h
      · rw [if_neg hc] at h
        refine ru_iload ddX11_string_26 rfl ?_
        refine ru_iconst (0 : Int32) ddX11_string_28 rfl ?_
        refine ru_iconst (2 : Int32) ddX11_string_29 rfl ?_
        obtain ⟨v10, hv, h⟩ := ruB_inv h
        refine ru_callSi (as := [.int x4, .int (0 : Int32), .int (2 : Int32)]) (st := []) ddX11_string_30 csX11_66 (wX11_within 1 (Nat.le_refl _) x4 (0 : Int32) (2 : Int32) A hv) rfl (Nat.le_trans (m := 6) (by decide) hd) (Nat.le_of_ble_eq_true rfl) ?_
        clear hv
        refine ru_if_ne 43 ddX11_string_33 (by decide) (fun hc => ?_) (fun hc => ?_)
        · rw [if_neg hc] at h
          refine ru_aload_n ddX11_string_43 rfl ?_
          refine ru_iload_n ddX11_string_44 rfl ?_
          refine ru_iload_n ddX11_string_45 rfl ?_
          refine ru_iload_n ddX11_string_46 rfl ?_
          obtain ⟨A11, hv, h⟩ := ruB_inv h
          refine ru_callVv (as := [.int x1, .int x2, .int x3]) (st := []) ddX11_string_47 cvX11_170 rfl (wX11_findString 5 (Nat.le_refl _) x1 x2 x3 A hv) rfl (Nat.le_trans (m := 6) (by decide) hd) (Nat.le_of_ble_eq_true rfl) ?_
          clear hv
          refine ru_iload ddX11_string_50 rfl ?_
          refine ru_if_ne 62 ddX11_string_52 (by decide) (fun hc => ?_) (fun hc => ?_)
          · rw [if_neg hc] at h
            refine ru_iload ddX11_string_62 rfl ?_
            refine ru_iconst (1 : Int32) ddX11_string_64 rfl ?_
            refine ru_icmp_ne 75 ddX11_string_65 (by decide) (fun hc => ?_) (fun hc => ?_)
            · rw [if_neg hc] at h
              refine ru_aload_n ddX11_string_75 rfl ?_
              refine ru_getI ddX11_string_76 flX11_157 rfl ?_
              exact ru_iretW ddX11_string_79 rfl h
            · rw [if_pos hc] at h
              refine ru_aload_n ddX11_string_68 rfl ?_
              refine ru_getI ddX11_string_69 flX11_154 rfl ?_
              refine ru_goto 79 ddX11_string_72 (by decide) ?_
              exact ru_iretW ddX11_string_79 rfl h
          · rw [if_pos hc] at h
            refine ru_aload_n ddX11_string_55 rfl ?_
            refine ru_getI ddX11_string_56 flX11_150 rfl ?_
            refine ru_goto 79 ddX11_string_59 (by decide) ?_
            exact ru_iretW ddX11_string_79 rfl h
        · rw [if_pos hc] at h
          refine ru_aload_n ddX11_string_36 rfl ?_
          refine ru_ldc (v := (-1000001 : Int32)) ddX11_string_37 ckX11_65 ?_
          obtain ⟨v12, A13, hv, h⟩ := ruB2_inv h
          refine ru_callVi (as := [.int (-1000001 : Int32)]) (st := []) ddX11_string_39 cvX11_82 rfl (wX11_finding 1 (Nat.le_refl _) (-1000001 : Int32) A hv) rfl (Nat.le_trans (m := 6) (by decide) hd) (Nat.le_of_ble_eq_true rfl) ?_
          clear hv
          exact ru_iretW ddX11_string_42 rfl h
theorem wX11_odd_l77 {E : ruE} {d : Nat} (hd : 7 ≤ d) {β : Type} {Q : Option Value → ruA → Prop} {res : β} (x2 : Int32) (x3 : Int32) (x4 : Int32) (x5 : Int32) {k130 : Int32 → Int32 → ruA → Option (β)} (hk130 : ∀ (x6 : Int32) (x7 : Int32) (A : ruA), k130 x6 x7 A = some res → ruW E mmX11_odd d Q 130 [none, none, none, none, some (.int x4), none, some (.int x6), some (.int x7), none] [] A) : ∀ (n : Nat) (x6 : Int32) (x7 : Int32) (x8 : Int32) (A : ruA), fX11_odd_l77 x2 x3 x4 x5 k130 n x6 x7 x8 A = some res → ruW E mmX11_odd d Q 77 [some (rurf E 83), none, some (.int x2), some (.int x3), some (.int x4), some (.int x5), some (.int x6), some (.int x7), some (.int x8)] [] A := by
  intro n
  induction n with
  | zero =>
    intro x6 x7 x8 A h
    exact absurd h (by rw [fX11_odd_l77]; exact fun h => nomatch h)
  | succ n ih =>
    intro x6 x7 x8 A h
    rw [fX11_odd_l77] at h
    refine ru_iload ddX11_odd_77 rfl ?_
    refine ru_aload_n ddX11_odd_79 rfl ?_
    refine ru_getR (r := 84) ddX11_odd_80 flX11_9 rfl rfl ?_
    refine ru_iconst (1 : Int32) ddX11_odd_83 rfl ?_
    obtain ⟨v14, hv, h⟩ := ruB_inv h
    refine ru_iald ddX11_odd_84 rfl hv ?_
    clear hv
    refine ru_icmp_ge 130 ddX11_odd_85 (by decide) (fun hc => ?_) (fun hc => ?_)
    · rw [if_pos hc] at h
      refine ru_wk (L2 := [none, none, none, none, some (.int x4), none, some (.int x6), some (.int x7), none]) ⟨rfl, rfl, rfl, trivial⟩ ?_
      exact hk130 x6 x7 A h
    · rw [if_neg hc] at h
      refine ru_aload_n ddX11_odd_88 rfl ?_
      refine ru_iload ddX11_odd_89 rfl ?_
      refine ru_iload_n ddX11_odd_91 rfl ?_
      obtain ⟨v15, hv, h⟩ := ruB_inv h
      refine ru_callVi (as := [.int x8, .int x2]) (st := []) ddX11_odd_92 cvX11_174 rfl (wX11_sheetsOf 4 (Nat.le_refl _) x8 x2 A hv) rfl (Nat.le_trans (m := 7) (by decide) hd) (Nat.le_of_ble_eq_true rfl) ?_
      clear hv
      obtain ⟨v16, v17, A18, hq, h⟩ := ruB3_inv h
      have J : ruW E mmX11_odd d Q 124 [some (rurf E 83), none, some (.int x2), some (.int x3), some (.int x4), some (.int x5), some (.int v16), some (.int v17), some (.int x8)] [] A18 := by
          refine ru_iinc (x8 + (1 : Int32)) ddX11_odd_124 (by decide) rfl rfl rfl rfl ?_
          refine ru_goto 77 ddX11_odd_127 (by decide) ?_
          exact ih v16 v17 (x8 + (1 : Int32)) A18 h
      replace h := hq
      clear hq
      refine ru_if_le 124 ddX11_odd_95 (by decide) (fun hc => ?_) (fun hc => ?_)
      · rw [if_pos hc] at h
        refine ru_wk (L2 := [some (rurf E 83), none, some (.int x2), some (.int x3), some (.int x4), some (.int x5), some (.int x6), some (.int x7), some (.int x8)]) ⟨rfl, rfl, rfl, rfl, rfl, rfl, rfl, rfl, trivial⟩ ?_
        obtain ⟨rfl, rfl, rfl⟩ := ruS3 h
        exact J
      · rw [if_neg hc] at h
        refine ru_iinc (x7 + (1 : Int32)) ddX11_odd_98 (by decide) rfl rfl rfl rfl ?_
        refine ru_iload ddX11_odd_101 rfl ?_
        refine ru_aload_n ddX11_odd_103 rfl ?_
        refine ru_iload ddX11_odd_104 rfl ?_
        refine ru_iload_n ddX11_odd_106 rfl ?_
        refine ru_iload_n ddX11_odd_107 rfl ?_
        obtain ⟨v19, A20, hv, h⟩ := ruB2_inv h
        refine ru_callVi (as := [.int x8, .int x2, .int x3]) (st := [.int x6]) ddX11_odd_108 cvX11_180 rfl (wX11_measured 6 (Nat.le_refl _) x8 x2 x3 A hv) rfl (Nat.le_trans (m := 7) (by decide) hd) (Nat.le_of_ble_eq_true rfl) ?_
        clear hv
        refine ru_iload ddX11_odd_111 rfl ?_
        obtain ⟨v21, hq, h⟩ := ruB_inv h
        have J : ruW E mmX11_odd d Q 121 [some (rurf E 83), none, some (.int x2), some (.int x3), some (.int x4), some (.int x5), none, some (.int (x7 + (1 : Int32))), some (.int x8)] [.int v21, .int x6] A20 := by
            refine ru_iadd ddX11_odd_121 ?_
            refine ru_istore ddX11_odd_122 (by decide) rfl rfl ?_
            refine ru_wk (L2 := [some (rurf E 83), none, some (.int x2), some (.int x3), some (.int x4), some (.int x5), some (.int (x6 + v21)), some (.int (x7 + (1 : Int32))), some (.int x8)]) ⟨rfl, rfl, rfl, rfl, rfl, rfl, rfl, rfl, trivial⟩ ?_
            obtain ⟨rfl, rfl, rfl⟩ := ruS3 h
            exact J
        replace h := hq
        clear hq
        refine ru_icmp_lt 120 ddX11_odd_113 (by decide) (fun hc => ?_) (fun hc => ?_)
        · rw [if_pos hc] at h
          refine ru_iconst (0 : Int32) ddX11_odd_120 rfl ?_
          refine ru_wk (L2 := [some (rurf E 83), none, some (.int x2), some (.int x3), some (.int x4), some (.int x5), none, some (.int (x7 + (1 : Int32))), some (.int x8)]) ⟨rfl, rfl, rfl, rfl, rfl, rfl, rfl, trivial⟩ ?_
          obtain rfl := ruS1 h
          exact J
        · rw [if_neg hc] at h
          refine ru_iconst (1 : Int32) ddX11_odd_116 rfl ?_
          refine ru_goto 121 ddX11_odd_117 (by decide) ?_
          refine ru_wk (L2 := [some (rurf E 83), none, some (.int x2), some (.int x3), some (.int x4), some (.int x5), none, some (.int (x7 + (1 : Int32))), some (.int x8)]) ⟨rfl, rfl, rfl, rfl, rfl, rfl, rfl, trivial⟩ ?_
          obtain rfl := ruS1 h
          exact J
theorem wX11_odd {E : ruE} (d : Nat) (hd : 7 ≤ d) (x1 : Int32) (x2 : Int32) (x3 : Int32) (x4 : Int32) (A : ruA) {r : Int32} {B : ruA} (h : fX11_odd x1 x2 x3 x4 A = some (r, B)) : ruC E mmX11_odd d [rurf E 83, .int x1, .int x2, .int x3, .int x4] A (ruPr r B) := by
  refine ruC.of (L := [some (rurf E 83), some (.int x1), some (.int x2), some (.int x3), some (.int x4), none, none, none, none]) (by decide) rfl (Nat.le_of_ble_eq_true rfl) rfl ?_
  unfold fX11_odd at h
  refine ru_aload_n ddX11_odd_0 rfl ?_
  refine ru_iload_n ddX11_odd_1 rfl ?_
  refine ru_iconst (1 : Int32) ddX11_odd_2 rfl ?_
  obtain ⟨v1, hv, h⟩ := ruB_inv h
  refine ru_callVi (as := [.int x1, .int (1 : Int32)]) (st := []) ddX11_odd_3 cvX11_87 rfl (wX11_is 2 (Nat.le_refl _) x1 (1 : Int32) A hv) rfl (Nat.le_trans (m := 7) (by decide) hd) (Nat.le_of_ble_eq_true rfl) ?_
  clear hv
  refine ru_if_eq 36 ddX11_odd_6 (by decide) (fun hc => ?_) (fun hc => ?_)
  · rw [if_pos hc] at h
    refine ru_aload_n ddX11_odd_36 rfl ?_
    refine ru_ldc (v := (-1000001 : Int32)) ddX11_odd_37 ckX11_65 ?_
    obtain ⟨v2, A3, hv, h⟩ := ruB2_inv h
    refine ru_callVi (as := [.int (-1000001 : Int32)]) (st := []) ddX11_odd_39 cvX11_82 rfl (wX11_finding 1 (Nat.le_refl _) (-1000001 : Int32) A hv) rfl (Nat.le_trans (m := 7) (by decide) hd) (Nat.le_of_ble_eq_true rfl) ?_
    clear hv
    exact ru_iretW ddX11_odd_42 rfl h
  · rw [if_neg hc] at h
    refine ru_iload_n ddX11_odd_9 rfl ?_
    obtain ⟨v4, hv, h⟩ := ruB_inv h
    refine ru_callSi (as := [.int x2]) (st := []) ddX11_odd_10 csX11_128 (wX11_isYear 2 (Nat.le_refl _) x2 A hv) rfl (Nat.le_trans (m := 7) (by decide) hd) (Nat.le_of_ble_eq_true rfl) ?_
    clear hv
    refine ru_if_eq 36 ddX11_odd_13 (by decide) (fun hc => ?_) (fun hc => ?_)
    · rw [if_pos hc] at h
      refine ru_aload_n ddX11_odd_36 rfl ?_
      refine ru_ldc (v := (-1000001 : Int32)) ddX11_odd_37 ckX11_65 ?_
      obtain ⟨v5, A6, hv, h⟩ := ruB2_inv h
      refine ru_callVi (as := [.int (-1000001 : Int32)]) (st := []) ddX11_odd_39 cvX11_82 rfl (wX11_finding 1 (Nat.le_refl _) (-1000001 : Int32) A hv) rfl (Nat.le_trans (m := 7) (by decide) hd) (Nat.le_of_ble_eq_true rfl) ?_
      clear hv
      exact ru_iretW ddX11_odd_42 rfl h
    · rw [if_neg hc] at h
      refine ru_iload_n ddX11_odd_16 rfl ?_
      refine ru_iconst (0 : Int32) ddX11_odd_17 rfl ?_
      refine ru_bipush (6 : Int32) ddX11_odd_18 rfl ?_
      obtain ⟨v7, hv, h⟩ := ruB_inv h
      refine ru_callSi (as := [.int x3, .int (0 : Int32), .int (6 : Int32)]) (st := []) ddX11_odd_20 csX11_66 (wX11_within 1 (Nat.le_refl _) x3 (0 : Int32) (6 : Int32) A hv) rfl (Nat.le_trans (m := 7) (by decide) hd) (Nat.le_of_ble_eq_true rfl) ?_
      clear hv
      refine ru_if_eq 36 ddX11_odd_23 (by decide) (fun hc => ?_) (fun hc => ?_)
      · rw [if_pos hc] at h
        refine ru_aload_n ddX11_odd_36 rfl ?_
        refine ru_ldc (v := (-1000001 : Int32)) ddX11_odd_37 ckX11_65 ?_
        obtain ⟨v8, A9, hv, h⟩ := ruB2_inv h
        refine ru_callVi (as := [.int (-1000001 : Int32)]) (st := []) ddX11_odd_39 cvX11_82 rfl (wX11_finding 1 (Nat.le_refl _) (-1000001 : Int32) A hv) rfl (Nat.le_trans (m := 7) (by decide) hd) (Nat.le_of_ble_eq_true rfl) ?_
        clear hv
        exact ru_iretW ddX11_odd_42 rfl h
      · rw [if_neg hc] at h
        refine ru_iload ddX11_odd_26 rfl ?_
        refine ru_iconst (0 : Int32) ddX11_odd_28 rfl ?_
        refine ru_iconst (1 : Int32) ddX11_odd_29 rfl ?_
        obtain ⟨v10, hv, h⟩ := ruB_inv h
        refine ru_callSi (as := [.int x4, .int (0 : Int32), .int (1 : Int32)]) (st := []) ddX11_odd_30 csX11_66 (wX11_within 1 (Nat.le_refl _) x4 (0 : Int32) (1 : Int32) A hv) rfl (Nat.le_trans (m := 7) (by decide) hd) (Nat.le_of_ble_eq_true rfl) ?_
        clear hv
        refine ru_if_ne 43 ddX11_odd_33 (by decide) (fun hc => ?_) (fun hc => ?_)
        · rw [if_neg hc] at h
          refine ru_aload_n ddX11_odd_43 rfl ?_
          refine ru_iload_n ddX11_odd_44 rfl ?_
          refine ru_iload_n ddX11_odd_45 rfl ?_
          obtain ⟨v11, hv, h⟩ := ruB_inv h
          refine ru_callVi (as := [.int x1, .int x2]) (st := []) ddX11_odd_46 cvX11_174 rfl (wX11_sheetsOf 4 (Nat.le_refl _) x1 x2 A hv) rfl (Nat.le_trans (m := 7) (by decide) hd) (Nat.le_of_ble_eq_true rfl) ?_
          clear hv
          refine ru_if_ne 59 ddX11_odd_49 (by decide) (fun hc => ?_) (fun hc => ?_)
          · rw [if_neg hc] at h
            refine ru_aload_n ddX11_odd_59 rfl ?_
            refine ru_iload_n ddX11_odd_60 rfl ?_
            refine ru_iload_n ddX11_odd_61 rfl ?_
            refine ru_iload_n ddX11_odd_62 rfl ?_
            obtain ⟨v12, A13, hv, h⟩ := ruB2_inv h
            refine ru_callVi (as := [.int x1, .int x2, .int x3]) (st := []) ddX11_odd_63 cvX11_180 rfl (wX11_measured 6 (Nat.le_refl _) x1 x2 x3 A hv) rfl (Nat.le_trans (m := 7) (by decide) hd) (Nat.le_of_ble_eq_true rfl) ?_
            clear hv
            refine ru_istore ddX11_odd_66 (by decide) rfl rfl ?_
            refine ru_iconst (0 : Int32) ddX11_odd_68 rfl ?_
            refine ru_istore ddX11_odd_69 (by decide) rfl rfl ?_
            refine ru_iconst (0 : Int32) ddX11_odd_71 rfl ?_
            refine ru_istore ddX11_odd_72 (by decide) rfl rfl ?_
            refine ru_iconst (0 : Int32) ddX11_odd_74 rfl ?_
            refine ru_istore ddX11_odd_75 (by decide) rfl rfl ?_
            refine ru_wk (L2 := [some (rurf E 83), none, some (.int x2), some (.int x3), some (.int x4), some (.int v12), some (.int (0 : Int32)), some (.int (0 : Int32)), some (.int (0 : Int32))]) ⟨rfl, rfl, rfl, rfl, rfl, rfl, rfl, rfl, trivial⟩ ?_
            exact wX11_odd_l77 hd x2 x3 x4 v12 (fun v22 v23 A24 h => by
                  refine ru_iload ddX11_odd_130 rfl ?_
                  refine ru_if_ne 140 ddX11_odd_132 (by decide) (fun hc => ?_) (fun hc => ?_)
                  · rw [if_neg hc] at h
                    refine ru_iload ddX11_odd_140 rfl ?_
                    exact ru_iretW ddX11_odd_142 rfl h
                  · rw [if_pos hc] at h
                    refine ru_iload ddX11_odd_135 rfl ?_
                    refine ru_goto 142 ddX11_odd_137 (by decide) ?_
                    exact ru_iretW ddX11_odd_142 rfl h) ruF (0 : Int32) (0 : Int32) (0 : Int32) A13 h
          · rw [if_pos hc] at h
            refine ru_aload_n ddX11_odd_52 rfl ?_
            refine ru_ldc (v := (-1000004 : Int32)) ddX11_odd_53 ckX11_127 ?_
            obtain ⟨v25, A26, hv, h⟩ := ruB2_inv h
            refine ru_callVi (as := [.int (-1000004 : Int32)]) (st := []) ddX11_odd_55 cvX11_82 rfl (wX11_finding 1 (Nat.le_refl _) (-1000004 : Int32) A hv) rfl (Nat.le_trans (m := 7) (by decide) hd) (Nat.le_of_ble_eq_true rfl) ?_
            clear hv
            exact ru_iretW ddX11_odd_58 rfl h
        · rw [if_pos hc] at h
          refine ru_aload_n ddX11_odd_36 rfl ?_
          refine ru_ldc (v := (-1000001 : Int32)) ddX11_odd_37 ckX11_65 ?_
          obtain ⟨v27, A28, hv, h⟩ := ruB2_inv h
          refine ru_callVi (as := [.int (-1000001 : Int32)]) (st := []) ddX11_odd_39 cvX11_82 rfl (wX11_finding 1 (Nat.le_refl _) (-1000001 : Int32) A hv) rfl (Nat.le_trans (m := 7) (by decide) hd) (Nat.le_of_ble_eq_true rfl) ?_
          clear hv
          exact ru_iretW ddX11_odd_42 rfl h
theorem wX11_feed_l38 {E : ruE} {d : Nat} (hd : 2 ≤ d) {β : Type} {Q : Option Value → ruA → Prop} {res : β} (x1 : Int32) {k77 : ruA → Option (β)} (hk77 : ∀ (A : ruA), k77 A = some res → ruW E mmX11_feed d Q 77 [some (rurf E 83), none, none, none] [] A) : ∀ (n : Nat) (x3 : Int32) (A : ruA), fX11_feed_l38 x1 k77 n x3 A = some res → ruW E mmX11_feed d Q 38 [some (rurf E 83), some (.int x1), none, some (.int x3)] [] A := by
  intro n
  induction n with
  | zero =>
    intro x3 A h
    exact absurd h (by rw [fX11_feed_l38]; exact fun h => nomatch h)
  | succ n ih =>
    intro x3 A h
    rw [fX11_feed_l38] at h
    refine ru_iload_n ddX11_feed_38 rfl ?_
    refine ru_if_lt 77 ddX11_feed_39 (by decide) (fun hc => ?_) (fun hc => ?_)
    · rw [if_pos hc] at h
      refine ru_wk (L2 := [some (rurf E 83), none, none, none]) ⟨rfl, trivial⟩ ?_
      exact hk77 A h
    · rw [if_neg hc] at h
      refine ru_aload_n ddX11_feed_42 rfl ?_
      refine ru_getR (r := 87) ddX11_feed_43 flX11_19 rfl rfl ?_
      refine ru_aload_n ddX11_feed_46 rfl ?_
      refine ru_getI ddX11_feed_47 flX11_183 rfl ?_
      refine ru_iload_n ddX11_feed_50 rfl ?_
      refine ru_bipush (8 : Int32) ddX11_feed_51 rfl ?_
      refine ru_iload_n ddX11_feed_53 rfl ?_
      refine ru_imul ddX11_feed_54 ?_
      refine ru_ishr ddX11_feed_55 ?_
      refine ru_sipush (255 : Int32) ddX11_feed_56 rfl ?_
      refine ru_iand ddX11_feed_59 ?_
      obtain ⟨A2, hv, h⟩ := ruB_inv h
      refine ru_iast ddX11_feed_60 rfl hv ?_
      clear hv
      refine ru_aload_n ddX11_feed_61 rfl ?_
      refine ru_dup ddX11_feed_62 rfl ?_
      refine ru_getI ddX11_feed_63 flX11_183 rfl ?_
      refine ru_iconst (1 : Int32) ddX11_feed_66 rfl ?_
      refine ru_iadd ddX11_feed_67 ?_
      obtain ⟨A3, hv, h⟩ := ruB_inv h
      refine ru_putI2 ddX11_feed_68 flX11_183 fp11_6 rfl hv ?_
      clear hv
      refine ru_iinc (x3 + (-1 : Int32)) ddX11_feed_71 (by decide) rfl rfl rfl rfl ?_
      refine ru_goto 38 ddX11_feed_74 (by decide) ?_
      exact ih (x3 + (-1 : Int32)) A3 h
theorem wX11_feed {E : ruE} (d : Nat) (hd : 2 ≤ d) (x1 : Int32) (x2 : Int32) (A : ruA) {r : Int32} {B : ruA} (h : fX11_feed x1 x2 A = some (r, B)) : ruC E mmX11_feed d [rurf E 83, .int x1, .int x2] A (ruPr r B) := by
  refine ruC.of (L := [some (rurf E 83), some (.int x1), some (.int x2), none]) (by decide) rfl (Nat.le_of_ble_eq_true rfl) rfl ?_
  unfold fX11_feed at h
  refine ru_iload_n ddX11_feed_0 rfl ?_
  refine ru_iconst (1 : Int32) ddX11_feed_1 rfl ?_
  refine ru_iconst (4 : Int32) ddX11_feed_2 rfl ?_
  obtain ⟨v1, hv, h⟩ := ruB_inv h
  refine ru_callSi (as := [.int x2, .int (1 : Int32), .int (4 : Int32)]) (st := []) ddX11_feed_3 csX11_66 (wX11_within 1 (Nat.le_refl _) x2 (1 : Int32) (4 : Int32) A hv) rfl (Nat.le_trans (m := 2) (by decide) hd) (Nat.le_of_ble_eq_true rfl) ?_
  clear hv
  refine ru_if_ne 16 ddX11_feed_6 (by decide) (fun hc => ?_) (fun hc => ?_)
  · rw [if_neg hc] at h
    refine ru_aload_n ddX11_feed_16 rfl ?_
    refine ru_getI ddX11_feed_17 flX11_183 rfl ?_
    refine ru_iload_n ddX11_feed_20 rfl ?_
    refine ru_iadd ddX11_feed_21 ?_
    refine ru_bipush (100 : Int32) ddX11_feed_22 rfl ?_
    refine ru_icmp_le 34 ddX11_feed_24 (by decide) (fun hc => ?_) (fun hc => ?_)
    · rw [if_pos hc] at h
      refine ru_iload_n ddX11_feed_34 rfl ?_
      refine ru_iconst (1 : Int32) ddX11_feed_35 rfl ?_
      refine ru_isub ddX11_feed_36 ?_
      refine ru_istore_n ddX11_feed_37 (by decide) rfl rfl ?_
      refine ru_wk (L2 := [some (rurf E 83), some (.int x1), none, some (.int (x2 - (1 : Int32)))]) ⟨rfl, rfl, rfl, trivial⟩ ?_
      exact wX11_feed_l38 hd x1 (fun A4 h => by
            refine ru_aload_n ddX11_feed_77 rfl ?_
            refine ru_getI ddX11_feed_78 flX11_183 rfl ?_
            exact ru_iretW ddX11_feed_81 rfl h) ruF (x2 - (1 : Int32)) A h
    · rw [if_neg hc] at h
      refine ru_aload_n ddX11_feed_27 rfl ?_
      refine ru_ldc (v := (-1000002 : Int32)) ddX11_feed_28 ckX11_86 ?_
      obtain ⟨v5, A6, hv, h⟩ := ruB2_inv h
      refine ru_callVi (as := [.int (-1000002 : Int32)]) (st := []) ddX11_feed_30 cvX11_82 rfl (wX11_finding 1 (Nat.le_refl _) (-1000002 : Int32) A hv) rfl (Nat.le_trans (m := 2) (by decide) hd) (Nat.le_of_ble_eq_true rfl) ?_
      clear hv
      exact ru_iretW ddX11_feed_33 rfl h
  · rw [if_pos hc] at h
    refine ru_aload_n ddX11_feed_9 rfl ?_
    refine ru_ldc (v := (-1000001 : Int32)) ddX11_feed_10 ckX11_65 ?_
    obtain ⟨v7, A8, hv, h⟩ := ruB2_inv h
    refine ru_callVi (as := [.int (-1000001 : Int32)]) (st := []) ddX11_feed_12 cvX11_82 rfl (wX11_finding 1 (Nat.le_refl _) (-1000001 : Int32) A hv) rfl (Nat.le_trans (m := 2) (by decide) hd) (Nat.le_of_ble_eq_true rfl) ?_
    clear hv
    exact ru_iretW ddX11_feed_15 rfl h
theorem wX11_wipe {E : ruE} (d : Nat) (hd : 1 ≤ d) (A : ruA) {r : Int32} {B : ruA} (h : fX11_wipe A = some (r, B)) : ruC E mmX11_wipe d [rurf E 83] A (ruPr r B) := by
  refine ruC.of (L := [some (rurf E 83), none]) (by decide) rfl (Nat.le_of_ble_eq_true rfl) rfl ?_
  unfold fX11_wipe at h
  refine ru_aload_n ddX11_wipe_0 rfl ?_
  refine ru_getI ddX11_wipe_1 flX11_183 rfl ?_
  refine ru_istore_n ddX11_wipe_4 (by decide) rfl rfl ?_
  refine ru_aload_n ddX11_wipe_5 rfl ?_
  refine ru_iconst (0 : Int32) ddX11_wipe_6 rfl ?_
  obtain ⟨A1, hv, h⟩ := ruB_inv h
  refine ru_putI2 ddX11_wipe_7 flX11_183 fp11_6 rfl hv ?_
  clear hv
  refine ru_iload_n ddX11_wipe_10 rfl ?_
  exact ru_iretW ddX11_wipe_11 rfl h
theorem wX11_isByte {E : ruE} (d : Nat) (hd : 2 ≤ d) (x1 : Int32) (x2 : Int32) (x3 : Int32) (A : ruA) {r : Int32} (h : fX11_isByte x1 x2 x3 A = some r) : ruC E mmX11_isByte d [rurf E 83, .int x1, .int x2, .int x3] A (ruPr r A) := by
  refine ruC.of (L := [some (rurf E 83), some (.int x1), some (.int x2), some (.int x3)]) (by decide) rfl (Nat.le_of_ble_eq_true rfl) rfl ?_
  unfold fX11_isByte at h
  refine ru_iload_n ddX11_isByte_0 rfl ?_
  refine ru_aload_n ddX11_isByte_1 rfl ?_
  refine ru_getI ddX11_isByte_2 flX11_183 rfl ?_
  refine ru_icmp_ge 26 ddX11_isByte_5 (by decide) (fun hc => ?_) (fun hc => ?_)
  · rw [if_pos hc] at h
    refine ru_iconst (0 : Int32) ddX11_isByte_26 rfl ?_
    exact ru_zretP ddX11_isByte_27 rfl (Or.inl rfl) h
  · rw [if_neg hc] at h
    refine ru_aload_n ddX11_isByte_8 rfl ?_
    refine ru_getR (r := 87) ddX11_isByte_9 flX11_19 rfl rfl ?_
    refine ru_iload_n ddX11_isByte_12 rfl ?_
    obtain ⟨v1, hv, h⟩ := ruB_inv h
    refine ru_iald ddX11_isByte_13 rfl hv ?_
    clear hv
    refine ru_iload_n ddX11_isByte_14 rfl ?_
    refine ru_iload_n ddX11_isByte_15 rfl ?_
    obtain ⟨v2, hv, h⟩ := ruB_inv h
    refine ru_callSi (as := [.int v1, .int x2, .int x3]) (st := []) ddX11_isByte_16 csX11_66 (wX11_within 1 (Nat.le_refl _) v1 x2 x3 A hv) rfl (Nat.le_trans (m := 2) (by decide) hd) (Nat.le_of_ble_eq_true rfl) ?_
    clear hv
    refine ru_if_eq 26 ddX11_isByte_19 (by decide) (fun hc => ?_) (fun hc => ?_)
    · rw [if_pos hc] at h
      refine ru_iconst (0 : Int32) ddX11_isByte_26 rfl ?_
      exact ru_zretP ddX11_isByte_27 rfl (Or.inl rfl) h
    · rw [if_neg hc] at h
      refine ru_iconst (1 : Int32) ddX11_isByte_22 rfl ?_
      refine ru_goto 27 ddX11_isByte_23 (by decide) ?_
      exact ru_zretP ddX11_isByte_27 rfl (Or.inr rfl) h
theorem wX11_next_l8 {E : ruE} {d : Nat} (hd : 3 ≤ d) {β : Type} {Q : Option Value → ruA → Prop} {res : β} {k46 : ruA → Option (β)} (hk46 : ∀ (A : ruA), k46 A = some res → ruW E mmX11_next d Q 46 [some (rurf E 83)] [] A) : ∀ (n : Nat) (A : ruA), fX11_next_l8 k46 n A = some res → ruW E mmX11_next d Q 8 [some (rurf E 83)] [] A := by
  intro n
  induction n with
  | zero =>
    intro A h
    exact absurd h (by rw [fX11_next_l8]; exact fun h => nomatch h)
  | succ n ih =>
    intro A h
    rw [fX11_next_l8] at h
    refine ru_aload_n ddX11_next_8 rfl ?_
    refine ru_getI ddX11_next_9 flX11_189 rfl ?_
    refine ru_aload_n ddX11_next_12 rfl ?_
    refine ru_getI ddX11_next_13 flX11_183 rfl ?_
    refine ru_icmp_ge 46 ddX11_next_16 (by decide) (fun hc => ?_) (fun hc => ?_)
    · rw [if_pos hc] at h
      exact hk46 A h
    · rw [if_neg hc] at h
      refine ru_aload_n ddX11_next_19 rfl ?_
      refine ru_getR (r := 87) ddX11_next_20 flX11_19 rfl rfl ?_
      refine ru_aload_n ddX11_next_23 rfl ?_
      refine ru_getI ddX11_next_24 flX11_189 rfl ?_
      obtain ⟨v2, hv, h⟩ := ruB_inv h
      refine ru_iald ddX11_next_27 rfl hv ?_
      clear hv
      refine ru_bipush (32 : Int32) ddX11_next_28 rfl ?_
      refine ru_icmp_ne 46 ddX11_next_30 (by decide) (fun hc => ?_) (fun hc => ?_)
      · rw [if_neg hc] at h
        exact hk46 A h
      · rw [if_pos hc] at h
        refine ru_aload_n ddX11_next_33 rfl ?_
        refine ru_dup ddX11_next_34 rfl ?_
        refine ru_getI ddX11_next_35 flX11_189 rfl ?_
        refine ru_iconst (1 : Int32) ddX11_next_38 rfl ?_
        refine ru_iadd ddX11_next_39 ?_
        obtain ⟨A3, hv, h⟩ := ruB_inv h
        refine ru_putI2 ddX11_next_40 flX11_189 fp11_15 rfl hv ?_
        clear hv
        refine ru_goto 8 ddX11_next_43 (by decide) ?_
        exact ih A3 h
theorem wX11_next_l124 {E : ruE} {d : Nat} (hd : 3 ≤ d) {β : Type} {Q : Option Value → ruA → Prop} {res : β} {k183 : ruA → Option (β)} (hk183 : ∀ (A : ruA), k183 A = some res → ruW E mmX11_next d Q 183 [none] [] A) : ∀ (n : Nat) (A : ruA), fX11_next_l124 k183 n A = some res → ruW E mmX11_next d Q 124 [some (rurf E 83)] [] A := by
  intro n
  induction n with
  | zero =>
    intro A h
    exact absurd h (by rw [fX11_next_l124]; exact fun h => nomatch h)
  | succ n ih =>
    intro A h
    rw [fX11_next_l124] at h
    refine ru_aload_n ddX11_next_124 rfl ?_
    refine ru_getI ddX11_next_125 flX11_192 rfl ?_
    refine ru_iconst (1 : Int32) ddX11_next_128 rfl ?_
    refine ru_icmp_ne 147 ddX11_next_129 (by decide) (fun hc => ?_) (fun hc => ?_)
    · rw [if_neg hc] at h
      refine ru_aload_n ddX11_next_147 rfl ?_
      refine ru_getI ddX11_next_148 flX11_192 rfl ?_
      refine ru_iconst (2 : Int32) ddX11_next_151 rfl ?_
      refine ru_icmp_ne 183 ddX11_next_152 (by decide) (fun hc => ?_) (fun hc => ?_)
      · rw [if_neg hc] at h
        refine ru_wk (L2 := [none]) trivial ?_
        exact hk183 A h
      · rw [if_pos hc] at h
        refine ru_aload_n ddX11_next_155 rfl ?_
        refine ru_aload_n ddX11_next_156 rfl ?_
        refine ru_getI ddX11_next_157 flX11_186 rfl ?_
        refine ru_bipush (48 : Int32) ddX11_next_160 rfl ?_
        refine ru_bipush (57 : Int32) ddX11_next_162 rfl ?_
        obtain ⟨v11, hv, h⟩ := ruB_inv h
        refine ru_callVi (as := [.int (A.1 83 16), .int (48 : Int32), .int (57 : Int32)]) (st := []) ddX11_next_164 cvX11_195 rfl (wX11_isByte 2 (Nat.le_refl _) (A.1 83 16) (48 : Int32) (57 : Int32) A hv) rfl (Nat.le_trans (m := 3) (by decide) hd) (Nat.le_of_ble_eq_true rfl) ?_
        clear hv
        refine ru_if_eq 183 ddX11_next_167 (by decide) (fun hc => ?_) (fun hc => ?_)
        · rw [if_pos hc] at h
          refine ru_wk (L2 := [none]) trivial ?_
          exact hk183 A h
        · rw [if_neg hc] at h
          refine ru_aload_n ddX11_next_170 rfl ?_
          refine ru_dup ddX11_next_171 rfl ?_
          refine ru_getI ddX11_next_172 flX11_186 rfl ?_
          refine ru_iconst (1 : Int32) ddX11_next_175 rfl ?_
          refine ru_iadd ddX11_next_176 ?_
          obtain ⟨A12, hv, h⟩ := ruB_inv h
          refine ru_putI2 ddX11_next_177 flX11_186 fp11_16 rfl hv ?_
          clear hv
          refine ru_goto 124 ddX11_next_180 (by decide) ?_
          exact ih A12 h
    · rw [if_pos hc] at h
      refine ru_aload_n ddX11_next_132 rfl ?_
      refine ru_aload_n ddX11_next_133 rfl ?_
      refine ru_getI ddX11_next_134 flX11_186 rfl ?_
      refine ru_bipush (97 : Int32) ddX11_next_137 rfl ?_
      refine ru_bipush (122 : Int32) ddX11_next_139 rfl ?_
      obtain ⟨v13, hv, h⟩ := ruB_inv h
      refine ru_callVi (as := [.int (A.1 83 16), .int (97 : Int32), .int (122 : Int32)]) (st := []) ddX11_next_141 cvX11_195 rfl (wX11_isByte 2 (Nat.le_refl _) (A.1 83 16) (97 : Int32) (122 : Int32) A hv) rfl (Nat.le_trans (m := 3) (by decide) hd) (Nat.le_of_ble_eq_true rfl) ?_
      clear hv
      refine ru_if_ne 170 ddX11_next_144 (by decide) (fun hc => ?_) (fun hc => ?_)
      · rw [if_neg hc] at h
        refine ru_aload_n ddX11_next_170 rfl ?_
        refine ru_dup ddX11_next_171 rfl ?_
        refine ru_getI ddX11_next_172 flX11_186 rfl ?_
        refine ru_iconst (1 : Int32) ddX11_next_175 rfl ?_
        refine ru_iadd ddX11_next_176 ?_
        obtain ⟨A14, hv, h⟩ := ruB_inv h
        refine ru_putI2 ddX11_next_177 flX11_186 fp11_16 rfl hv ?_
        clear hv
        refine ru_goto 124 ddX11_next_180 (by decide) ?_
        exact ih A14 h
      · rw [if_pos hc] at h
        refine ru_aload_n ddX11_next_147 rfl ?_
        refine ru_getI ddX11_next_148 flX11_192 rfl ?_
        refine ru_iconst (2 : Int32) ddX11_next_151 rfl ?_
        refine ru_icmp_ne 183 ddX11_next_152 (by decide) (fun hc => ?_) (fun hc => ?_)
        · rw [if_neg hc] at h
          refine ru_wk (L2 := [none]) trivial ?_
          exact hk183 A h
        · rw [if_pos hc] at h
          refine ru_aload_n ddX11_next_155 rfl ?_
          refine ru_aload_n ddX11_next_156 rfl ?_
          refine ru_getI ddX11_next_157 flX11_186 rfl ?_
          refine ru_bipush (48 : Int32) ddX11_next_160 rfl ?_
          refine ru_bipush (57 : Int32) ddX11_next_162 rfl ?_
          obtain ⟨v15, hv, h⟩ := ruB_inv h
          refine ru_callVi (as := [.int (A.1 83 16), .int (48 : Int32), .int (57 : Int32)]) (st := []) ddX11_next_164 cvX11_195 rfl (wX11_isByte 2 (Nat.le_refl _) (A.1 83 16) (48 : Int32) (57 : Int32) A hv) rfl (Nat.le_trans (m := 3) (by decide) hd) (Nat.le_of_ble_eq_true rfl) ?_
          clear hv
          refine ru_if_eq 183 ddX11_next_167 (by decide) (fun hc => ?_) (fun hc => ?_)
          · rw [if_pos hc] at h
            refine ru_wk (L2 := [none]) trivial ?_
            exact hk183 A h
          · rw [if_neg hc] at h
            refine ru_aload_n ddX11_next_170 rfl ?_
            refine ru_dup ddX11_next_171 rfl ?_
            refine ru_getI ddX11_next_172 flX11_186 rfl ?_
            refine ru_iconst (1 : Int32) ddX11_next_175 rfl ?_
            refine ru_iadd ddX11_next_176 ?_
            obtain ⟨A16, hv, h⟩ := ruB_inv h
            refine ru_putI2 ddX11_next_177 flX11_186 fp11_16 rfl hv ?_
            clear hv
            refine ru_goto 124 ddX11_next_180 (by decide) ?_
            exact ih A16 h
theorem wX11_next {E : ruE} (d : Nat) (hd : 3 ≤ d) (A : ruA) {B : ruA} (h : fX11_next A = some B) : ruC E mmX11_next d [rurf E 83] A (ruPv B) := by
  refine ruC.of (L := [some (rurf E 83)]) (by decide) rfl (Nat.le_of_ble_eq_true rfl) rfl ?_
  unfold fX11_next at h
  refine ru_aload_n ddX11_next_0 rfl ?_
  refine ru_aload_n ddX11_next_1 rfl ?_
  refine ru_getI ddX11_next_2 flX11_186 rfl ?_
  obtain ⟨A1, hv, h⟩ := ruB_inv h
  refine ru_putI2 ddX11_next_5 flX11_189 fp11_15 rfl hv ?_
  clear hv
  exact wX11_next_l8 hd (fun A4 h => by
        refine ru_aload_n ddX11_next_46 rfl ?_
        refine ru_aload_n ddX11_next_47 rfl ?_
        refine ru_getI ddX11_next_48 flX11_189 rfl ?_
        obtain ⟨A5, hv, h⟩ := ruB_inv h
        refine ru_putI2 ddX11_next_51 flX11_186 fp11_16 rfl hv ?_
        clear hv
        refine ru_aload_n ddX11_next_54 rfl ?_
        refine ru_getI ddX11_next_55 flX11_189 rfl ?_
        refine ru_aload_n ddX11_next_58 rfl ?_
        refine ru_getI ddX11_next_59 flX11_183 rfl ?_
        refine ru_icmp_ne 71 ddX11_next_62 (by decide) (fun hc => ?_) (fun hc => ?_)
        · rw [if_neg hc] at h
          refine ru_aload_n ddX11_next_71 rfl ?_
          refine ru_aload_n ddX11_next_72 rfl ?_
          refine ru_aload_n ddX11_next_73 rfl ?_
          refine ru_getI ddX11_next_74 flX11_189 rfl ?_
          refine ru_bipush (97 : Int32) ddX11_next_77 rfl ?_
          refine ru_bipush (122 : Int32) ddX11_next_79 rfl ?_
          obtain ⟨v6, hv, h⟩ := ruB_inv h
          refine ru_callVi (as := [.int (A5.1 83 15), .int (97 : Int32), .int (122 : Int32)]) (st := [rurf E 83]) ddX11_next_81 cvX11_195 rfl (wX11_isByte 2 (Nat.le_refl _) (A5.1 83 15) (97 : Int32) (122 : Int32) A5 hv) rfl (Nat.le_trans (m := 3) (by decide) hd) (Nat.le_of_ble_eq_true rfl) ?_
          clear hv
          obtain ⟨v7, hq, h⟩ := ruB_inv h
          have J : ruW E mmX11_next d (ruPv B) 111 [some (rurf E 83)] [.int v7, rurf E 83] A5 := by
              obtain ⟨A9, hv, h⟩ := ruB_inv h
              refine ru_putI2 ddX11_next_111 flX11_192 fp11_14 rfl hv ?_
              clear hv
              refine ru_aload_n ddX11_next_114 rfl ?_
              refine ru_dup ddX11_next_115 rfl ?_
              refine ru_getI ddX11_next_116 flX11_186 rfl ?_
              refine ru_iconst (1 : Int32) ddX11_next_119 rfl ?_
              refine ru_iadd ddX11_next_120 ?_
              obtain ⟨A10, hv, h⟩ := ruB_inv h
              refine ru_putI2 ddX11_next_121 flX11_186 fp11_16 rfl hv ?_
              clear hv
              exact wX11_next_l124 hd (fun A17 h => by
                    exact ru_vretW ddX11_next_183 rfl h) ruF A10 h
          replace h := hq
          clear hq
          refine ru_if_eq 91 ddX11_next_84 (by decide) (fun hc => ?_) (fun hc => ?_)
          · rw [if_pos hc] at h
            refine ru_aload_n ddX11_next_91 rfl ?_
            refine ru_aload_n ddX11_next_92 rfl ?_
            refine ru_getI ddX11_next_93 flX11_189 rfl ?_
            refine ru_bipush (48 : Int32) ddX11_next_96 rfl ?_
            refine ru_bipush (57 : Int32) ddX11_next_98 rfl ?_
            obtain ⟨v8, hv, h⟩ := ruB_inv h
            refine ru_callVi (as := [.int (A5.1 83 15), .int (48 : Int32), .int (57 : Int32)]) (st := [rurf E 83]) ddX11_next_100 cvX11_195 rfl (wX11_isByte 2 (Nat.le_refl _) (A5.1 83 15) (48 : Int32) (57 : Int32) A5 hv) rfl (Nat.le_trans (m := 3) (by decide) hd) (Nat.le_of_ble_eq_true rfl) ?_
            clear hv
            refine ru_if_eq 110 ddX11_next_103 (by decide) (fun hc => ?_) (fun hc => ?_)
            · rw [if_pos hc] at h
              refine ru_iconst (3 : Int32) ddX11_next_110 rfl ?_
              obtain rfl := ruS1 h
              exact J
            · rw [if_neg hc] at h
              refine ru_iconst (2 : Int32) ddX11_next_106 rfl ?_
              refine ru_goto 111 ddX11_next_107 (by decide) ?_
              obtain rfl := ruS1 h
              exact J
          · rw [if_neg hc] at h
            refine ru_iconst (1 : Int32) ddX11_next_87 rfl ?_
            refine ru_goto 111 ddX11_next_88 (by decide) ?_
            obtain rfl := ruS1 h
            exact J
        · rw [if_pos hc] at h
          refine ru_aload_n ddX11_next_65 rfl ?_
          refine ru_iconst (0 : Int32) ddX11_next_66 rfl ?_
          obtain ⟨A18, hv, h⟩ := ruB_inv h
          refine ru_putI2 ddX11_next_67 flX11_192 fp11_14 rfl hv ?_
          clear hv
          exact ru_vretW ddX11_next_70 rfl h) ruF A1 h
theorem wX11_isWord_l39 {E : ruE} {d : Nat} (hd : 6 ≤ d) {β : Type} {Q : Option Value → ruA → Prop} {res : β} (x1 : Nat) (A : ruA) {k82 : Int32 → Option (β)} (hk82 : ∀ (x2 : Int32), k82 x2 = some res → ruW E mmX11_isWord d Q 82 [none, none, some (.int x2), none] [] A) : ∀ (n : Nat) (x2 : Int32) (x3 : Int32), fX11_isWord_l39 x1 A k82 n x2 x3 = some res → ruW E mmX11_isWord d Q 39 [some (rurf E 83), some (rurf E x1), some (.int x2), some (.int x3)] [] A := by
  intro n
  induction n with
  | zero =>
    intro x2 x3 h
    exact absurd h (by rw [fX11_isWord_l39]; exact fun h => nomatch h)
  | succ n ih =>
    intro x2 x3 h
    rw [fX11_isWord_l39] at h
    refine ru_iload_n ddX11_isWord_39 rfl ?_
    refine ru_if_eq 82 ddX11_isWord_40 (by decide) (fun hc => ?_) (fun hc => ?_)
    · rw [if_pos hc] at h
      refine ru_wk (L2 := [none, none, some (.int x2), none]) ⟨rfl, trivial⟩ ?_
      exact hk82 x2 h
    · rw [if_neg hc] at h
      refine ru_iload_n ddX11_isWord_43 rfl ?_
      refine ru_aload_n ddX11_isWord_44 rfl ?_
      obtain ⟨v3, hv, h⟩ := ruB_inv h
      refine ru_strlen ddX11_isWord_45 tlX11_205 hv (Nat.le_trans (m := 6) (by decide) hd) (Nat.le_of_ble_eq_true rfl) ?_
      clear hv
      refine ru_icmp_ge 82 ddX11_isWord_48 (by decide) (fun hc => ?_) (fun hc => ?_)
      · rw [if_pos hc] at h
        refine ru_wk (L2 := [none, none, some (.int x2), none]) ⟨rfl, trivial⟩ ?_
        exact hk82 x2 h
      · rw [if_neg hc] at h
        refine ru_aload_n ddX11_isWord_51 rfl ?_
        refine ru_getR (r := 87) ddX11_isWord_52 flX11_19 rfl rfl ?_
        refine ru_aload_n ddX11_isWord_55 rfl ?_
        refine ru_getI ddX11_isWord_56 flX11_189 rfl ?_
        refine ru_iload_n ddX11_isWord_59 rfl ?_
        refine ru_iadd ddX11_isWord_60 ?_
        obtain ⟨v4, hv, h⟩ := ruB_inv h
        refine ru_iald ddX11_isWord_61 rfl hv ?_
        clear hv
        refine ru_aload_n ddX11_isWord_62 rfl ?_
        refine ru_iload_n ddX11_isWord_63 rfl ?_
        obtain ⟨v5, hv, h⟩ := ruB_inv h
        refine ru_charAt ddX11_isWord_64 tcX11_209 hv (Nat.le_trans (m := 6) (by decide) hd) (Nat.le_of_ble_eq_true rfl) ?_
        clear hv
        obtain ⟨v6, hq, h⟩ := ruB_inv h
        have J : ruW E mmX11_isWord d Q 75 [some (rurf E 83), some (rurf E x1), none, some (.int x3)] [.int v6] A := by
            refine ru_istore_n ddX11_isWord_75 (by decide) rfl rfl ?_
            refine ru_iinc (x3 + (1 : Int32)) ddX11_isWord_76 (by decide) rfl rfl rfl rfl ?_
            refine ru_goto 39 ddX11_isWord_79 (by decide) ?_
            exact ih v6 (x3 + (1 : Int32)) h
        replace h := hq
        clear hq
        refine ru_icmp_ne 74 ddX11_isWord_67 (by decide) (fun hc => ?_) (fun hc => ?_)
        · rw [if_neg hc] at h
          refine ru_iconst (0 : Int32) ddX11_isWord_74 rfl ?_
          refine ru_wk (L2 := [some (rurf E 83), some (rurf E x1), none, some (.int x3)]) ⟨rfl, rfl, rfl, trivial⟩ ?_
          obtain rfl := ruS1 h
          exact J
        · rw [if_pos hc] at h
          refine ru_iconst (1 : Int32) ddX11_isWord_70 rfl ?_
          refine ru_goto 75 ddX11_isWord_71 (by decide) ?_
          refine ru_wk (L2 := [some (rurf E 83), some (rurf E x1), none, some (.int x3)]) ⟨rfl, rfl, rfl, trivial⟩ ?_
          obtain rfl := ruS1 h
          exact J
theorem wX11_isWord {E : ruE} (d : Nat) (hd : 6 ≤ d) (x1 : Nat) (A : ruA) {r : Int32} (h : fX11_isWord x1 A = some r) : ruC E mmX11_isWord d [rurf E 83, rurf E x1] A (ruPr r A) := by
  refine ruC.of (L := [some (rurf E 83), some (rurf E x1), none, none]) (by decide) rfl (Nat.le_of_ble_eq_true rfl) rfl ?_
  unfold fX11_isWord at h
  refine ru_aload_n ddX11_isWord_0 rfl ?_
  refine ru_getI ddX11_isWord_1 flX11_198 rfl ?_
  obtain ⟨v1, hq, h⟩ := ruB_inv h
  have J : ruW E mmX11_isWord d (ruPr r A) 36 [some (rurf E 83), some (rurf E x1), none, none] [.int v1] A := by
      refine ru_istore_n ddX11_isWord_36 (by decide) rfl rfl ?_
      refine ru_iconst (0 : Int32) ddX11_isWord_37 rfl ?_
      refine ru_istore_n ddX11_isWord_38 (by decide) rfl rfl ?_
      exact wX11_isWord_l39 hd x1 A (fun v7 h => by
            refine ru_iload_n ddX11_isWord_82 rfl ?_
            obtain ⟨_, hz, h⟩ := ruB_inv h
            exact ru_zretP ddX11_isWord_83 rfl (rubz_eq hz) h) ruF v1 (0 : Int32) h
  replace h := hq
  clear hq
  refine ru_if_ne 35 ddX11_isWord_4 (by decide) (fun hc => ?_) (fun hc => ?_)
  · rw [if_neg hc] at h
    refine ru_iconst (0 : Int32) ddX11_isWord_35 rfl ?_
    obtain rfl := ruS1 h
    exact J
  · rw [if_pos hc] at h
    refine ru_aload_n ddX11_isWord_7 rfl ?_
    refine ru_getI ddX11_isWord_8 flX11_192 rfl ?_
    refine ru_iconst (1 : Int32) ddX11_isWord_11 rfl ?_
    refine ru_icmp_ne 35 ddX11_isWord_12 (by decide) (fun hc => ?_) (fun hc => ?_)
    · rw [if_neg hc] at h
      refine ru_iconst (0 : Int32) ddX11_isWord_35 rfl ?_
      obtain rfl := ruS1 h
      exact J
    · rw [if_pos hc] at h
      refine ru_aload_n ddX11_isWord_15 rfl ?_
      refine ru_getI ddX11_isWord_16 flX11_186 rfl ?_
      refine ru_aload_n ddX11_isWord_19 rfl ?_
      refine ru_getI ddX11_isWord_20 flX11_189 rfl ?_
      refine ru_isub ddX11_isWord_23 ?_
      refine ru_aload_n ddX11_isWord_24 rfl ?_
      obtain ⟨v2, hv, h⟩ := ruB_inv h
      refine ru_strlen ddX11_isWord_25 tlX11_205 hv (Nat.le_trans (m := 6) (by decide) hd) (Nat.le_of_ble_eq_true rfl) ?_
      clear hv
      refine ru_icmp_ne 35 ddX11_isWord_28 (by decide) (fun hc => ?_) (fun hc => ?_)
      · rw [if_neg hc] at h
        refine ru_iconst (0 : Int32) ddX11_isWord_35 rfl ?_
        obtain rfl := ruS1 h
        exact J
      · rw [if_pos hc] at h
        refine ru_iconst (1 : Int32) ddX11_isWord_31 rfl ?_
        refine ru_goto 36 ddX11_isWord_32 (by decide) ?_
        obtain rfl := ruS1 h
        exact J
theorem wX11_isSign {E : ruE} (d : Nat) (hd : 1 ≤ d) (x1 : Int32) (A : ruA) {r : Int32} (h : fX11_isSign x1 A = some r) : ruC E mmX11_isSign d [rurf E 83, .int x1] A (ruPr r A) := by
  refine ruC.of (L := [some (rurf E 83), some (.int x1)]) (by decide) rfl (Nat.le_of_ble_eq_true rfl) rfl ?_
  unfold fX11_isSign at h
  refine ru_aload_n ddX11_isSign_0 rfl ?_
  refine ru_getI ddX11_isSign_1 flX11_198 rfl ?_
  refine ru_if_ne 32 ddX11_isSign_4 (by decide) (fun hc => ?_) (fun hc => ?_)
  · rw [if_neg hc] at h
    refine ru_iconst (0 : Int32) ddX11_isSign_32 rfl ?_
    exact ru_zretP ddX11_isSign_33 rfl (Or.inl rfl) h
  · rw [if_pos hc] at h
    refine ru_aload_n ddX11_isSign_7 rfl ?_
    refine ru_getI ddX11_isSign_8 flX11_192 rfl ?_
    refine ru_iconst (3 : Int32) ddX11_isSign_11 rfl ?_
    refine ru_icmp_ne 32 ddX11_isSign_12 (by decide) (fun hc => ?_) (fun hc => ?_)
    · rw [if_neg hc] at h
      refine ru_iconst (0 : Int32) ddX11_isSign_32 rfl ?_
      exact ru_zretP ddX11_isSign_33 rfl (Or.inl rfl) h
    · rw [if_pos hc] at h
      refine ru_aload_n ddX11_isSign_15 rfl ?_
      refine ru_getR (r := 87) ddX11_isSign_16 flX11_19 rfl rfl ?_
      refine ru_aload_n ddX11_isSign_19 rfl ?_
      refine ru_getI ddX11_isSign_20 flX11_189 rfl ?_
      obtain ⟨v1, hv, h⟩ := ruB_inv h
      refine ru_iald ddX11_isSign_23 rfl hv ?_
      clear hv
      refine ru_iload_n ddX11_isSign_24 rfl ?_
      refine ru_icmp_ne 32 ddX11_isSign_25 (by decide) (fun hc => ?_) (fun hc => ?_)
      · rw [if_neg hc] at h
        refine ru_iconst (0 : Int32) ddX11_isSign_32 rfl ?_
        exact ru_zretP ddX11_isSign_33 rfl (Or.inl rfl) h
      · rw [if_pos hc] at h
        refine ru_iconst (1 : Int32) ddX11_isSign_28 rfl ?_
        refine ru_goto 33 ddX11_isSign_29 (by decide) ?_
        exact ru_zretP ddX11_isSign_33 rfl (Or.inr rfl) h
theorem wX11_need {E : ruE} (d : Nat) (hd : 4 ≤ d) (x1 : Int32) (A : ruA) {B : ruA} (h : fX11_need x1 A = some B) : ruC E mmX11_need d [rurf E 83, .int x1] A (ruPv B) := by
  refine ruC.of (L := [some (rurf E 83), some (.int x1)]) (by decide) rfl (Nat.le_of_ble_eq_true rfl) rfl ?_
  unfold fX11_need at h
  refine ru_aload_n ddX11_need_0 rfl ?_
  refine ru_aload_n ddX11_need_1 rfl ?_
  refine ru_getI ddX11_need_2 flX11_198 rfl ?_
  obtain ⟨v1, hq, h⟩ := ruB_inv h
  have J : ruW E mmX11_need d (ruPv B) 17 [some (rurf E 83), none] [.int v1, rurf E 83] A := by
      obtain ⟨_, hz, h⟩ := ruB_inv h
      obtain ⟨A2, hv, h⟩ := ruB_inv h
      refine ru_putZ2 ddX11_need_17 flX11_198 fp11_17 rfl (rubz_eq hz) hv ?_
      clear hv
      refine ru_aload_n ddX11_need_20 rfl ?_
      refine ru_getI ddX11_need_21 flX11_198 rfl ?_
      refine ru_if_ne 31 ddX11_need_24 (by decide) (fun hc => ?_) (fun hc => ?_)
      · rw [if_neg hc] at h
        exact ru_vretW ddX11_need_31 rfl h
      · rw [if_pos hc] at h
        refine ru_aload_n ddX11_need_27 rfl ?_
        obtain ⟨A3, hv, h⟩ := ruB_inv h
        refine ru_callVv (as := []) (st := []) ddX11_need_28 cvX11_202 rfl (wX11_next 3 (Nat.le_refl _) A2 hv) rfl (Nat.le_trans (m := 4) (by decide) hd) (Nat.le_of_ble_eq_true rfl) ?_
        clear hv
        exact ru_vretW ddX11_need_31 rfl h
  replace h := hq
  clear hq
  refine ru_if_ne 12 ddX11_need_5 (by decide) (fun hc => ?_) (fun hc => ?_)
  · rw [if_neg hc] at h
    refine ru_iconst (1 : Int32) ddX11_need_12 rfl ?_
    refine ru_goto 17 ddX11_need_13 (by decide) ?_
    refine ru_wk (L2 := [some (rurf E 83), none]) ⟨rfl, trivial⟩ ?_
    obtain rfl := ruS1 h
    exact J
  · rw [if_pos hc] at h
    refine ru_iload_n ddX11_need_8 rfl ?_
    refine ru_if_ne 16 ddX11_need_9 (by decide) (fun hc => ?_) (fun hc => ?_)
    · rw [if_neg hc] at h
      refine ru_iconst (0 : Int32) ddX11_need_16 rfl ?_
      refine ru_wk (L2 := [some (rurf E 83), none]) ⟨rfl, trivial⟩ ?_
      obtain rfl := ruS1 h
      exact J
    · rw [if_pos hc] at h
      refine ru_iconst (1 : Int32) ddX11_need_12 rfl ?_
      refine ru_goto 17 ddX11_need_13 (by decide) ?_
      refine ru_wk (L2 := [some (rurf E 83), none]) ⟨rfl, trivial⟩ ?_
      obtain rfl := ruS1 h
      exact J
theorem wX11_emit {E : ruE} (d : Nat) (hd : 1 ≤ d) (x1 : Int32) (A : ruA) {B : ruA} (h : fX11_emit x1 A = some B) : ruC E mmX11_emit d [rurf E 83, .int x1] A (ruPv B) := by
  refine ruC.of (L := [some (rurf E 83), some (.int x1)]) (by decide) rfl (Nat.le_of_ble_eq_true rfl) rfl ?_
  unfold fX11_emit at h
  refine ru_aload_n ddX11_emit_0 rfl ?_
  refine ru_getI ddX11_emit_1 flX11_198 rfl ?_
  refine ru_if_ne 27 ddX11_emit_4 (by decide) (fun hc => ?_) (fun hc => ?_)
  · rw [if_neg hc] at h
    exact ru_vretW ddX11_emit_27 rfl h
  · rw [if_pos hc] at h
    refine ru_aload_n ddX11_emit_7 rfl ?_
    refine ru_getR (r := 92) ddX11_emit_8 flX11_49 rfl rfl ?_
    refine ru_aload_n ddX11_emit_11 rfl ?_
    refine ru_getI ddX11_emit_12 flX11_213 rfl ?_
    refine ru_iload_n ddX11_emit_15 rfl ?_
    obtain ⟨A1, hv, h⟩ := ruB_inv h
    refine ru_iast ddX11_emit_16 rfl hv ?_
    clear hv
    refine ru_aload_n ddX11_emit_17 rfl ?_
    refine ru_dup ddX11_emit_18 rfl ?_
    refine ru_getI ddX11_emit_19 flX11_213 rfl ?_
    refine ru_iconst (1 : Int32) ddX11_emit_22 rfl ?_
    refine ru_iadd ddX11_emit_23 ?_
    obtain ⟨A2, hv, h⟩ := ruB_inv h
    refine ru_putI2 ddX11_emit_24 flX11_213 fp11_20 rfl hv ?_
    clear hv
    exact ru_vretW ddX11_emit_27 rfl h
theorem wX11_part_l4 {E : ruE} {d : Nat} (hd : 7 ≤ d) {β : Type} {Q : Option Value → ruA → Prop} {res : β} (A : ruA) {k38 : Int32 → Option (β)} (hk38 : ∀ (x1 : Int32), k38 x1 = some res → ruW E mmX11_part d Q 38 [some (rurf E 83), some (.int x1), none, none] [] A) : ∀ (n : Nat) (x1 : Int32) (x2 : Int32), fX11_part_l4 A k38 n x1 x2 = some res → ruW E mmX11_part d Q 4 [some (rurf E 83), some (.int x1), some (.int x2), none] [] A := by
  intro n
  induction n with
  | zero =>
    intro x1 x2 h
    exact absurd h (by rw [fX11_part_l4]; exact fun h => nomatch h)
  | succ n ih =>
    intro x1 x2 h
    rw [fX11_part_l4] at h
    refine ru_iload_n ddX11_part_4 rfl ?_
    refine ru_aload_n ddX11_part_5 rfl ?_
    refine ru_getR (r := 91) ddX11_part_6 flX11_45 rfl rfl ?_
    refine ru_alen (v := (6 : Int32)) ddX11_part_9 (show rush 91 = some (.inr (5, 6)) from rfl) (by decide) rfl ?_
    refine ru_icmp_ge 38 ddX11_part_10 (by decide) (fun hc => ?_) (fun hc => ?_)
    · rw [if_pos hc] at h
      refine ru_wk (L2 := [some (rurf E 83), some (.int x1), none, none]) ⟨rfl, rfl, trivial⟩ ?_
      exact hk38 x1 h
    · rw [if_neg hc] at h
      refine ru_aload_n ddX11_part_13 rfl ?_
      refine ru_aload_n ddX11_part_14 rfl ?_
      refine ru_getR (r := 91) ddX11_part_15 flX11_45 rfl rfl ?_
      refine ru_iload_n ddX11_part_18 rfl ?_
      obtain ⟨c1, hv, h⟩ := ruB_inv h
      refine ru_aald5 ddX11_part_19 rfl hv ?_
      clear hv
      obtain ⟨v2, hv, h⟩ := ruB_inv h
      refine ru_callVi (as := [rurf E c1]) (st := []) ddX11_part_20 cvX11_242 rfl (wX11_isWord 6 (Nat.le_refl _) c1 A hv) rfl (by omega) (Nat.le_of_ble_eq_true rfl) ?_
      clear hv
      obtain ⟨v3, hq, h⟩ := ruB_inv h
      have J : ruW E mmX11_part d Q 31 [some (rurf E 83), none, some (.int x2), none] [.int v3] A := by
          refine ru_istore_n ddX11_part_31 (by decide) rfl rfl ?_
          refine ru_iinc (x2 + (1 : Int32)) ddX11_part_32 (by decide) rfl rfl rfl rfl ?_
          refine ru_goto 4 ddX11_part_35 (by decide) ?_
          exact ih v3 (x2 + (1 : Int32)) h
      replace h := hq
      clear hq
      refine ru_if_eq 30 ddX11_part_23 (by decide) (fun hc => ?_) (fun hc => ?_)
      · rw [if_pos hc] at h
        refine ru_iload_n ddX11_part_30 rfl ?_
        refine ru_wk (L2 := [some (rurf E 83), none, some (.int x2), none]) ⟨rfl, rfl, trivial⟩ ?_
        obtain rfl := ruS1 h
        exact J
      · rw [if_neg hc] at h
        refine ru_iload_n ddX11_part_26 rfl ?_
        refine ru_goto 31 ddX11_part_27 (by decide) ?_
        refine ru_wk (L2 := [some (rurf E 83), none, some (.int x2), none]) ⟨rfl, rfl, trivial⟩ ?_
        obtain rfl := ruS1 h
        exact J
theorem wX11_part_l73 {E : ruE} {d : Nat} {dg : Nat} {gX11_either : ruA → Option (ruA)} (hgX11_either : ∀ (A B : ruA), gX11_either  A = some B → ruC E mmX11_either dg [rurf E 83] A (ruPv B)) (hdg : 19 ≤ dg) (hd : dg + 1 ≤ d) {β : Type} {Q : Option Value → ruA → Prop} {res : β} (A : ruA) {k102 : Int32 → Option (β)} (hk102 : ∀ (x2 : Int32), k102 x2 = some res → ruW E mmX11_part d Q 102 [some (rurf E 83), none, some (.int x2), none] [] A) : ∀ (n : Nat) (x2 : Int32) (x3 : Int32), fX11_part_l73 gX11_either A k102 n x2 x3 = some res → ruW E mmX11_part d Q 73 [some (rurf E 83), none, some (.int x2), some (.int x3)] [] A := by
  intro n
  induction n with
  | zero =>
    intro x2 x3 h
    exact absurd h (by rw [fX11_part_l73]; exact fun h => nomatch h)
  | succ n ih =>
    intro x2 x3 h
    rw [fX11_part_l73] at h
    refine ru_iload_n ddX11_part_73 rfl ?_
    refine ru_aload_n ddX11_part_74 rfl ?_
    refine ru_getI ddX11_part_75 flX11_186 rfl ?_
    refine ru_icmp_ge 102 ddX11_part_78 (by decide) (fun hc => ?_) (fun hc => ?_)
    · rw [if_pos hc] at h
      refine ru_wk (L2 := [some (rurf E 83), none, some (.int x2), none]) ⟨rfl, rfl, trivial⟩ ?_
      exact hk102 x2 h
    · rw [if_neg hc] at h
      refine ru_bipush (10 : Int32) ddX11_part_81 rfl ?_
      refine ru_iload_n ddX11_part_83 rfl ?_
      refine ru_imul ddX11_part_84 ?_
      refine ru_aload_n ddX11_part_85 rfl ?_
      refine ru_getR (r := 87) ddX11_part_86 flX11_19 rfl rfl ?_
      refine ru_iload_n ddX11_part_89 rfl ?_
      obtain ⟨v38, hv, h⟩ := ruB_inv h
      refine ru_iald ddX11_part_90 rfl hv ?_
      clear hv
      refine ru_iadd ddX11_part_91 ?_
      refine ru_bipush (48 : Int32) ddX11_part_92 rfl ?_
      refine ru_isub ddX11_part_94 ?_
      refine ru_istore_n ddX11_part_95 (by decide) rfl rfl ?_
      refine ru_iinc (x3 + (1 : Int32)) ddX11_part_96 (by decide) rfl rfl rfl rfl ?_
      refine ru_goto 73 ddX11_part_99 (by decide) ?_
      exact ih ((((10 : Int32) * x2) + v38) - (48 : Int32)) (x3 + (1 : Int32)) h
theorem wX11_part {E : ruE} (d : Nat) {dg : Nat} {gX11_either : ruA → Option (ruA)} (hgX11_either : ∀ (A B : ruA), gX11_either  A = some B → ruC E mmX11_either dg [rurf E 83] A (ruPv B)) (hdg : 19 ≤ dg) (hd : dg + 1 ≤ d) (A : ruA) {B : ruA} (h : fX11_part gX11_either A = some B) : ruC E mmX11_part d [rurf E 83] A (ruPv B) := by
  refine ruC.of (L := [some (rurf E 83), none, none, none]) (by decide) rfl (Nat.le_of_ble_eq_true rfl) rfl ?_
  unfold fX11_part at h
  refine ru_iconst (-1 : Int32) ddX11_part_0 rfl ?_
  refine ru_istore_n ddX11_part_1 (by decide) rfl rfl ?_
  refine ru_iconst (0 : Int32) ddX11_part_2 rfl ?_
  refine ru_istore_n ddX11_part_3 (by decide) rfl rfl ?_
  exact wX11_part_l4 (by omega) A (fun v4 h => by
        refine ru_aload_n ddX11_part_38 rfl ?_
        refine ru_getI ddX11_part_39 flX11_198 rfl ?_
        refine ru_if_ne 115 ddX11_part_42 (by decide) (fun hc => ?_) (fun hc => ?_)
        · rw [if_neg hc] at h
          refine ru_iload_n ddX11_part_115 rfl ?_
          refine ru_if_lt 136 ddX11_part_116 (by decide) (fun hc => ?_) (fun hc => ?_)
          · rw [if_pos hc] at h
            refine ru_aload_n ddX11_part_136 rfl ?_
            refine ru_aload_n ddX11_part_137 rfl ?_
            refine ru_bipush (40 : Int32) ddX11_part_138 rfl ?_
            obtain ⟨v5, hv, h⟩ := ruB_inv h
            refine ru_callVi (as := [.int (40 : Int32)]) (st := [rurf E 83]) ddX11_part_140 cvX11_219 rfl (wX11_isSign 1 (Nat.le_refl _) (40 : Int32) A hv) rfl (by omega) (Nat.le_of_ble_eq_true rfl) ?_
            clear hv
            obtain ⟨v6, hq, h⟩ := ruB_inv h
            have J : ruW E mmX11_part d (ruPv B) 160 [some (rurf E 83), none, none, none] [.int v6, rurf E 83] A := by
                obtain ⟨A7, hv, h⟩ := ruB_inv h
                refine ru_callVv (as := [.int v6]) (st := []) ddX11_part_160 cvX11_222 rfl (wX11_need 4 (Nat.le_refl _) v6 A hv) rfl (by omega) (Nat.le_of_ble_eq_true rfl) ?_
                clear hv
                refine ru_aload_n ddX11_part_163 rfl ?_
                refine ru_dup ddX11_part_164 rfl ?_
                refine ru_getI ddX11_part_165 flX11_233 rfl ?_
                refine ru_iconst (1 : Int32) ddX11_part_168 rfl ?_
                refine ru_iadd ddX11_part_169 ?_
                obtain ⟨A8, hv, h⟩ := ruB_inv h
                refine ru_putI2 ddX11_part_170 flX11_233 fp11_18 rfl hv ?_
                clear hv
                refine ru_aload_n ddX11_part_173 rfl ?_
                refine ru_getI ddX11_part_174 flX11_198 rfl ?_
                obtain ⟨A9, hq, h⟩ := ruB_inv h
                have J : ruW E mmX11_part d (ruPv B) 184 [some (rurf E 83), none, none, none] [] A9 := by
                    refine ru_aload_n ddX11_part_184 rfl ?_
                    refine ru_aload_n ddX11_part_185 rfl ?_
                    refine ru_bipush (41 : Int32) ddX11_part_186 rfl ?_
                    obtain ⟨v11, hv, h⟩ := ruB_inv h
                    refine ru_callVi (as := [.int (41 : Int32)]) (st := [rurf E 83]) ddX11_part_188 cvX11_219 rfl (wX11_isSign 1 (Nat.le_refl _) (41 : Int32) A9 hv) rfl (by omega) (Nat.le_of_ble_eq_true rfl) ?_
                    clear hv
                    obtain ⟨A12, hv, h⟩ := ruB_inv h
                    refine ru_callVv (as := [.int v11]) (st := []) ddX11_part_191 cvX11_222 rfl (wX11_need 4 (Nat.le_refl _) v11 A9 hv) rfl (by omega) (Nat.le_of_ble_eq_true rfl) ?_
                    clear hv
                    refine ru_aload_n ddX11_part_194 rfl ?_
                    refine ru_dup ddX11_part_195 rfl ?_
                    refine ru_getI ddX11_part_196 flX11_233 rfl ?_
                    refine ru_iconst (1 : Int32) ddX11_part_199 rfl ?_
                    refine ru_isub ddX11_part_200 ?_
                    obtain ⟨A13, hv, h⟩ := ruB_inv h
                    refine ru_putI2 ddX11_part_201 flX11_233 fp11_18 rfl hv ?_
                    clear hv
                    exact ru_vretW ddX11_part_204 rfl h
                replace h := hq
                clear hq
                refine ru_if_ne 184 ddX11_part_177 (by decide) (fun hc => ?_) (fun hc => ?_)
                · rw [if_neg hc] at h
                  obtain rfl := ruS1 h
                  exact J
                · rw [if_pos hc] at h
                  refine ru_aload_n ddX11_part_180 rfl ?_
                  obtain ⟨A10, hv, h⟩ := ruB_inv h
                  refine ru_callVv (as := []) (st := []) ddX11_part_181 cvX11_246 rfl (hgX11_either A8 _ hv) rfl hd (Nat.le_of_ble_eq_true rfl) ?_
                  clear hv
                  obtain rfl := ruS1 h
                  exact J
            replace h := hq
            clear hq
            refine ru_if_eq 159 ddX11_part_143 (by decide) (fun hc => ?_) (fun hc => ?_)
            · rw [if_pos hc] at h
              refine ru_iconst (0 : Int32) ddX11_part_159 rfl ?_
              refine ru_wk (L2 := [some (rurf E 83), none, none, none]) ⟨rfl, trivial⟩ ?_
              obtain rfl := ruS1 h
              exact J
            · rw [if_neg hc] at h
              refine ru_aload_n ddX11_part_146 rfl ?_
              refine ru_getI ddX11_part_147 flX11_233 rfl ?_
              refine ru_bipush (6 : Int32) ddX11_part_150 rfl ?_
              refine ru_icmp_ge 159 ddX11_part_152 (by decide) (fun hc => ?_) (fun hc => ?_)
              · rw [if_pos hc] at h
                refine ru_iconst (0 : Int32) ddX11_part_159 rfl ?_
                refine ru_wk (L2 := [some (rurf E 83), none, none, none]) ⟨rfl, trivial⟩ ?_
                obtain rfl := ruS1 h
                exact J
              · rw [if_neg hc] at h
                refine ru_iconst (1 : Int32) ddX11_part_155 rfl ?_
                refine ru_goto 160 ddX11_part_156 (by decide) ?_
                refine ru_wk (L2 := [some (rurf E 83), none, none, none]) ⟨rfl, trivial⟩ ?_
                obtain rfl := ruS1 h
                exact J
          · rw [if_neg hc] at h
            refine ru_aload_n ddX11_part_119 rfl ?_
            refine ru_sipush (10000 : Int32) ddX11_part_120 rfl ?_
            refine ru_iload_n ddX11_part_123 rfl ?_
            refine ru_iadd ddX11_part_124 ?_
            obtain ⟨A14, hv, h⟩ := ruB_inv h
            refine ru_callVv (as := [.int ((10000 : Int32) + v4)]) (st := []) ddX11_part_125 cvX11_226 rfl (wX11_emit 1 (Nat.le_refl _) ((10000 : Int32) + v4) A hv) rfl (by omega) (Nat.le_of_ble_eq_true rfl) ?_
            clear hv
            refine ru_aload_n ddX11_part_128 rfl ?_
            refine ru_iconst (1 : Int32) ddX11_part_129 rfl ?_
            obtain ⟨A15, hv, h⟩ := ruB_inv h
            refine ru_callVv (as := [.int (1 : Int32)]) (st := []) ddX11_part_130 cvX11_222 rfl (wX11_need 4 (Nat.le_refl _) (1 : Int32) A14 hv) rfl (by omega) (Nat.le_of_ble_eq_true rfl) ?_
            clear hv
            refine ru_goto 204 ddX11_part_133 (by decide) ?_
            exact ru_vretW ddX11_part_204 rfl h
        · rw [if_pos hc] at h
          refine ru_aload_n ddX11_part_45 rfl ?_
          refine ru_getI ddX11_part_46 flX11_192 rfl ?_
          refine ru_iconst (2 : Int32) ddX11_part_49 rfl ?_
          refine ru_icmp_ne 115 ddX11_part_50 (by decide) (fun hc => ?_) (fun hc => ?_)
          · rw [if_neg hc] at h
            refine ru_iload_n ddX11_part_115 rfl ?_
            refine ru_if_lt 136 ddX11_part_116 (by decide) (fun hc => ?_) (fun hc => ?_)
            · rw [if_pos hc] at h
              refine ru_aload_n ddX11_part_136 rfl ?_
              refine ru_aload_n ddX11_part_137 rfl ?_
              refine ru_bipush (40 : Int32) ddX11_part_138 rfl ?_
              obtain ⟨v16, hv, h⟩ := ruB_inv h
              refine ru_callVi (as := [.int (40 : Int32)]) (st := [rurf E 83]) ddX11_part_140 cvX11_219 rfl (wX11_isSign 1 (Nat.le_refl _) (40 : Int32) A hv) rfl (by omega) (Nat.le_of_ble_eq_true rfl) ?_
              clear hv
              obtain ⟨v17, hq, h⟩ := ruB_inv h
              have J : ruW E mmX11_part d (ruPv B) 160 [some (rurf E 83), none, none, none] [.int v17, rurf E 83] A := by
                  obtain ⟨A18, hv, h⟩ := ruB_inv h
                  refine ru_callVv (as := [.int v17]) (st := []) ddX11_part_160 cvX11_222 rfl (wX11_need 4 (Nat.le_refl _) v17 A hv) rfl (by omega) (Nat.le_of_ble_eq_true rfl) ?_
                  clear hv
                  refine ru_aload_n ddX11_part_163 rfl ?_
                  refine ru_dup ddX11_part_164 rfl ?_
                  refine ru_getI ddX11_part_165 flX11_233 rfl ?_
                  refine ru_iconst (1 : Int32) ddX11_part_168 rfl ?_
                  refine ru_iadd ddX11_part_169 ?_
                  obtain ⟨A19, hv, h⟩ := ruB_inv h
                  refine ru_putI2 ddX11_part_170 flX11_233 fp11_18 rfl hv ?_
                  clear hv
                  refine ru_aload_n ddX11_part_173 rfl ?_
                  refine ru_getI ddX11_part_174 flX11_198 rfl ?_
                  obtain ⟨A20, hq, h⟩ := ruB_inv h
                  have J : ruW E mmX11_part d (ruPv B) 184 [some (rurf E 83), none, none, none] [] A20 := by
                      refine ru_aload_n ddX11_part_184 rfl ?_
                      refine ru_aload_n ddX11_part_185 rfl ?_
                      refine ru_bipush (41 : Int32) ddX11_part_186 rfl ?_
                      obtain ⟨v22, hv, h⟩ := ruB_inv h
                      refine ru_callVi (as := [.int (41 : Int32)]) (st := [rurf E 83]) ddX11_part_188 cvX11_219 rfl (wX11_isSign 1 (Nat.le_refl _) (41 : Int32) A20 hv) rfl (by omega) (Nat.le_of_ble_eq_true rfl) ?_
                      clear hv
                      obtain ⟨A23, hv, h⟩ := ruB_inv h
                      refine ru_callVv (as := [.int v22]) (st := []) ddX11_part_191 cvX11_222 rfl (wX11_need 4 (Nat.le_refl _) v22 A20 hv) rfl (by omega) (Nat.le_of_ble_eq_true rfl) ?_
                      clear hv
                      refine ru_aload_n ddX11_part_194 rfl ?_
                      refine ru_dup ddX11_part_195 rfl ?_
                      refine ru_getI ddX11_part_196 flX11_233 rfl ?_
                      refine ru_iconst (1 : Int32) ddX11_part_199 rfl ?_
                      refine ru_isub ddX11_part_200 ?_
                      obtain ⟨A24, hv, h⟩ := ruB_inv h
                      refine ru_putI2 ddX11_part_201 flX11_233 fp11_18 rfl hv ?_
                      clear hv
                      exact ru_vretW ddX11_part_204 rfl h
                  replace h := hq
                  clear hq
                  refine ru_if_ne 184 ddX11_part_177 (by decide) (fun hc => ?_) (fun hc => ?_)
                  · rw [if_neg hc] at h
                    obtain rfl := ruS1 h
                    exact J
                  · rw [if_pos hc] at h
                    refine ru_aload_n ddX11_part_180 rfl ?_
                    obtain ⟨A21, hv, h⟩ := ruB_inv h
                    refine ru_callVv (as := []) (st := []) ddX11_part_181 cvX11_246 rfl (hgX11_either A19 _ hv) rfl hd (Nat.le_of_ble_eq_true rfl) ?_
                    clear hv
                    obtain rfl := ruS1 h
                    exact J
              replace h := hq
              clear hq
              refine ru_if_eq 159 ddX11_part_143 (by decide) (fun hc => ?_) (fun hc => ?_)
              · rw [if_pos hc] at h
                refine ru_iconst (0 : Int32) ddX11_part_159 rfl ?_
                refine ru_wk (L2 := [some (rurf E 83), none, none, none]) ⟨rfl, trivial⟩ ?_
                obtain rfl := ruS1 h
                exact J
              · rw [if_neg hc] at h
                refine ru_aload_n ddX11_part_146 rfl ?_
                refine ru_getI ddX11_part_147 flX11_233 rfl ?_
                refine ru_bipush (6 : Int32) ddX11_part_150 rfl ?_
                refine ru_icmp_ge 159 ddX11_part_152 (by decide) (fun hc => ?_) (fun hc => ?_)
                · rw [if_pos hc] at h
                  refine ru_iconst (0 : Int32) ddX11_part_159 rfl ?_
                  refine ru_wk (L2 := [some (rurf E 83), none, none, none]) ⟨rfl, trivial⟩ ?_
                  obtain rfl := ruS1 h
                  exact J
                · rw [if_neg hc] at h
                  refine ru_iconst (1 : Int32) ddX11_part_155 rfl ?_
                  refine ru_goto 160 ddX11_part_156 (by decide) ?_
                  refine ru_wk (L2 := [some (rurf E 83), none, none, none]) ⟨rfl, trivial⟩ ?_
                  obtain rfl := ruS1 h
                  exact J
            · rw [if_neg hc] at h
              refine ru_aload_n ddX11_part_119 rfl ?_
              refine ru_sipush (10000 : Int32) ddX11_part_120 rfl ?_
              refine ru_iload_n ddX11_part_123 rfl ?_
              refine ru_iadd ddX11_part_124 ?_
              obtain ⟨A25, hv, h⟩ := ruB_inv h
              refine ru_callVv (as := [.int ((10000 : Int32) + v4)]) (st := []) ddX11_part_125 cvX11_226 rfl (wX11_emit 1 (Nat.le_refl _) ((10000 : Int32) + v4) A hv) rfl (by omega) (Nat.le_of_ble_eq_true rfl) ?_
              clear hv
              refine ru_aload_n ddX11_part_128 rfl ?_
              refine ru_iconst (1 : Int32) ddX11_part_129 rfl ?_
              obtain ⟨A26, hv, h⟩ := ruB_inv h
              refine ru_callVv (as := [.int (1 : Int32)]) (st := []) ddX11_part_130 cvX11_222 rfl (wX11_need 4 (Nat.le_refl _) (1 : Int32) A25 hv) rfl (by omega) (Nat.le_of_ble_eq_true rfl) ?_
              clear hv
              refine ru_goto 204 ddX11_part_133 (by decide) ?_
              exact ru_vretW ddX11_part_204 rfl h
          · rw [if_pos hc] at h
            refine ru_aload_n ddX11_part_53 rfl ?_
            refine ru_getI ddX11_part_54 flX11_186 rfl ?_
            refine ru_aload_n ddX11_part_57 rfl ?_
            refine ru_getI ddX11_part_58 flX11_189 rfl ?_
            refine ru_isub ddX11_part_61 ?_
            refine ru_iconst (4 : Int32) ddX11_part_62 rfl ?_
            refine ru_icmp_gt 115 ddX11_part_63 (by decide) (fun hc => ?_) (fun hc => ?_)
            · rw [if_pos hc] at h
              refine ru_iload_n ddX11_part_115 rfl ?_
              refine ru_if_lt 136 ddX11_part_116 (by decide) (fun hc => ?_) (fun hc => ?_)
              · rw [if_pos hc] at h
                refine ru_aload_n ddX11_part_136 rfl ?_
                refine ru_aload_n ddX11_part_137 rfl ?_
                refine ru_bipush (40 : Int32) ddX11_part_138 rfl ?_
                obtain ⟨v27, hv, h⟩ := ruB_inv h
                refine ru_callVi (as := [.int (40 : Int32)]) (st := [rurf E 83]) ddX11_part_140 cvX11_219 rfl (wX11_isSign 1 (Nat.le_refl _) (40 : Int32) A hv) rfl (by omega) (Nat.le_of_ble_eq_true rfl) ?_
                clear hv
                obtain ⟨v28, hq, h⟩ := ruB_inv h
                have J : ruW E mmX11_part d (ruPv B) 160 [some (rurf E 83), none, none, none] [.int v28, rurf E 83] A := by
                    obtain ⟨A29, hv, h⟩ := ruB_inv h
                    refine ru_callVv (as := [.int v28]) (st := []) ddX11_part_160 cvX11_222 rfl (wX11_need 4 (Nat.le_refl _) v28 A hv) rfl (by omega) (Nat.le_of_ble_eq_true rfl) ?_
                    clear hv
                    refine ru_aload_n ddX11_part_163 rfl ?_
                    refine ru_dup ddX11_part_164 rfl ?_
                    refine ru_getI ddX11_part_165 flX11_233 rfl ?_
                    refine ru_iconst (1 : Int32) ddX11_part_168 rfl ?_
                    refine ru_iadd ddX11_part_169 ?_
                    obtain ⟨A30, hv, h⟩ := ruB_inv h
                    refine ru_putI2 ddX11_part_170 flX11_233 fp11_18 rfl hv ?_
                    clear hv
                    refine ru_aload_n ddX11_part_173 rfl ?_
                    refine ru_getI ddX11_part_174 flX11_198 rfl ?_
                    obtain ⟨A31, hq, h⟩ := ruB_inv h
                    have J : ruW E mmX11_part d (ruPv B) 184 [some (rurf E 83), none, none, none] [] A31 := by
                        refine ru_aload_n ddX11_part_184 rfl ?_
                        refine ru_aload_n ddX11_part_185 rfl ?_
                        refine ru_bipush (41 : Int32) ddX11_part_186 rfl ?_
                        obtain ⟨v33, hv, h⟩ := ruB_inv h
                        refine ru_callVi (as := [.int (41 : Int32)]) (st := [rurf E 83]) ddX11_part_188 cvX11_219 rfl (wX11_isSign 1 (Nat.le_refl _) (41 : Int32) A31 hv) rfl (by omega) (Nat.le_of_ble_eq_true rfl) ?_
                        clear hv
                        obtain ⟨A34, hv, h⟩ := ruB_inv h
                        refine ru_callVv (as := [.int v33]) (st := []) ddX11_part_191 cvX11_222 rfl (wX11_need 4 (Nat.le_refl _) v33 A31 hv) rfl (by omega) (Nat.le_of_ble_eq_true rfl) ?_
                        clear hv
                        refine ru_aload_n ddX11_part_194 rfl ?_
                        refine ru_dup ddX11_part_195 rfl ?_
                        refine ru_getI ddX11_part_196 flX11_233 rfl ?_
                        refine ru_iconst (1 : Int32) ddX11_part_199 rfl ?_
                        refine ru_isub ddX11_part_200 ?_
                        obtain ⟨A35, hv, h⟩ := ruB_inv h
                        refine ru_putI2 ddX11_part_201 flX11_233 fp11_18 rfl hv ?_
                        clear hv
                        exact ru_vretW ddX11_part_204 rfl h
                    replace h := hq
                    clear hq
                    refine ru_if_ne 184 ddX11_part_177 (by decide) (fun hc => ?_) (fun hc => ?_)
                    · rw [if_neg hc] at h
                      obtain rfl := ruS1 h
                      exact J
                    · rw [if_pos hc] at h
                      refine ru_aload_n ddX11_part_180 rfl ?_
                      obtain ⟨A32, hv, h⟩ := ruB_inv h
                      refine ru_callVv (as := []) (st := []) ddX11_part_181 cvX11_246 rfl (hgX11_either A30 _ hv) rfl hd (Nat.le_of_ble_eq_true rfl) ?_
                      clear hv
                      obtain rfl := ruS1 h
                      exact J
                replace h := hq
                clear hq
                refine ru_if_eq 159 ddX11_part_143 (by decide) (fun hc => ?_) (fun hc => ?_)
                · rw [if_pos hc] at h
                  refine ru_iconst (0 : Int32) ddX11_part_159 rfl ?_
                  refine ru_wk (L2 := [some (rurf E 83), none, none, none]) ⟨rfl, trivial⟩ ?_
                  obtain rfl := ruS1 h
                  exact J
                · rw [if_neg hc] at h
                  refine ru_aload_n ddX11_part_146 rfl ?_
                  refine ru_getI ddX11_part_147 flX11_233 rfl ?_
                  refine ru_bipush (6 : Int32) ddX11_part_150 rfl ?_
                  refine ru_icmp_ge 159 ddX11_part_152 (by decide) (fun hc => ?_) (fun hc => ?_)
                  · rw [if_pos hc] at h
                    refine ru_iconst (0 : Int32) ddX11_part_159 rfl ?_
                    refine ru_wk (L2 := [some (rurf E 83), none, none, none]) ⟨rfl, trivial⟩ ?_
                    obtain rfl := ruS1 h
                    exact J
                  · rw [if_neg hc] at h
                    refine ru_iconst (1 : Int32) ddX11_part_155 rfl ?_
                    refine ru_goto 160 ddX11_part_156 (by decide) ?_
                    refine ru_wk (L2 := [some (rurf E 83), none, none, none]) ⟨rfl, trivial⟩ ?_
                    obtain rfl := ruS1 h
                    exact J
              · rw [if_neg hc] at h
                refine ru_aload_n ddX11_part_119 rfl ?_
                refine ru_sipush (10000 : Int32) ddX11_part_120 rfl ?_
                refine ru_iload_n ddX11_part_123 rfl ?_
                refine ru_iadd ddX11_part_124 ?_
                obtain ⟨A36, hv, h⟩ := ruB_inv h
                refine ru_callVv (as := [.int ((10000 : Int32) + v4)]) (st := []) ddX11_part_125 cvX11_226 rfl (wX11_emit 1 (Nat.le_refl _) ((10000 : Int32) + v4) A hv) rfl (by omega) (Nat.le_of_ble_eq_true rfl) ?_
                clear hv
                refine ru_aload_n ddX11_part_128 rfl ?_
                refine ru_iconst (1 : Int32) ddX11_part_129 rfl ?_
                obtain ⟨A37, hv, h⟩ := ruB_inv h
                refine ru_callVv (as := [.int (1 : Int32)]) (st := []) ddX11_part_130 cvX11_222 rfl (wX11_need 4 (Nat.le_refl _) (1 : Int32) A36 hv) rfl (by omega) (Nat.le_of_ble_eq_true rfl) ?_
                clear hv
                refine ru_goto 204 ddX11_part_133 (by decide) ?_
                exact ru_vretW ddX11_part_204 rfl h
            · rw [if_neg hc] at h
              refine ru_iconst (0 : Int32) ddX11_part_66 rfl ?_
              refine ru_istore_n ddX11_part_67 (by decide) rfl rfl ?_
              refine ru_aload_n ddX11_part_68 rfl ?_
              refine ru_getI ddX11_part_69 flX11_189 rfl ?_
              refine ru_istore_n ddX11_part_72 (by decide) rfl rfl ?_
              refine ru_wk (L2 := [some (rurf E 83), none, some (.int (0 : Int32)), some (.int (A.1 83 15))]) ⟨rfl, rfl, rfl, trivial⟩ ?_
              exact wX11_part_l73 hgX11_either hdg hd A (fun v39 h => by
                    refine ru_aload_n ddX11_part_102 rfl ?_
                    refine ru_iload_n ddX11_part_103 rfl ?_
                    obtain ⟨A40, hv, h⟩ := ruB_inv h
                    refine ru_callVv (as := [.int v39]) (st := []) ddX11_part_104 cvX11_226 rfl (wX11_emit 1 (Nat.le_refl _) v39 A hv) rfl (by omega) (Nat.le_of_ble_eq_true rfl) ?_
                    clear hv
                    refine ru_aload_n ddX11_part_107 rfl ?_
                    refine ru_iconst (1 : Int32) ddX11_part_108 rfl ?_
                    obtain ⟨A41, hv, h⟩ := ruB_inv h
                    refine ru_callVv (as := [.int (1 : Int32)]) (st := []) ddX11_part_109 cvX11_222 rfl (wX11_need 4 (Nat.le_refl _) (1 : Int32) A40 hv) rfl (by omega) (Nat.le_of_ble_eq_true rfl) ?_
                    clear hv
                    refine ru_goto 204 ddX11_part_112 (by decide) ?_
                    exact ru_vretW ddX11_part_204 rfl h) ruF (0 : Int32) (A.1 83 15) h) ruF (-1 : Int32) (0 : Int32) h
theorem wX11_sum_l4 {E : ruE} {d : Nat} {dg : Nat} {gX11_part : ruA → Option (ruA)} (hgX11_part : ∀ (A B : ruA), gX11_part  A = some B → ruC E mmX11_part dg [rurf E 83] A (ruPv B)) (hdg : 19 ≤ dg) (hd : dg + 1 ≤ d) {β : Type} {Q : Option Value → ruA → Prop} {res : β} {k58 : ruA → Option (β)} (hk58 : ∀ (A : ruA), k58 A = some res → ruW E mmX11_sum d Q 58 [none, none] [] A) : ∀ (n : Nat) (A : ruA), fX11_sum_l4 gX11_part k58 n A = some res → ruW E mmX11_sum d Q 4 [some (rurf E 83), none] [] A := by
  intro n
  induction n with
  | zero =>
    intro A h
    exact absurd h (by rw [fX11_sum_l4]; exact fun h => nomatch h)
  | succ n ih =>
    intro A h
    rw [fX11_sum_l4] at h
    refine ru_aload_n ddX11_sum_4 rfl ?_
    refine ru_bipush (43 : Int32) ddX11_sum_5 rfl ?_
    obtain ⟨v2, hv, h⟩ := ruB_inv h
    refine ru_callVi (as := [.int (43 : Int32)]) (st := []) ddX11_sum_7 cvX11_219 rfl (wX11_isSign 1 (Nat.le_refl _) (43 : Int32) A hv) rfl (by omega) (Nat.le_of_ble_eq_true rfl) ?_
    clear hv
    refine ru_if_ne 22 ddX11_sum_10 (by decide) (fun hc => ?_) (fun hc => ?_)
    · rw [if_neg hc] at h
      refine ru_aload_n ddX11_sum_22 rfl ?_
      refine ru_bipush (43 : Int32) ddX11_sum_23 rfl ?_
      obtain ⟨v3, hv, h⟩ := ruB_inv h
      refine ru_callVi (as := [.int (43 : Int32)]) (st := []) ddX11_sum_25 cvX11_219 rfl (wX11_isSign 1 (Nat.le_refl _) (43 : Int32) A hv) rfl (by omega) (Nat.le_of_ble_eq_true rfl) ?_
      clear hv
      obtain ⟨v4, hq, h⟩ := ruB_inv h
      have J : ruW E mmX11_sum d Q 40 [some (rurf E 83), none] [.int v4] A := by
          refine ru_istore_n ddX11_sum_40 (by decide) rfl rfl ?_
          refine ru_aload_n ddX11_sum_41 rfl ?_
          refine ru_iconst (1 : Int32) ddX11_sum_42 rfl ?_
          obtain ⟨A5, hv, h⟩ := ruB_inv h
          refine ru_callVv (as := [.int (1 : Int32)]) (st := []) ddX11_sum_43 cvX11_222 rfl (wX11_need 4 (Nat.le_refl _) (1 : Int32) A hv) rfl (by omega) (Nat.le_of_ble_eq_true rfl) ?_
          clear hv
          refine ru_aload_n ddX11_sum_46 rfl ?_
          obtain ⟨A6, hv, h⟩ := ruB_inv h
          refine ru_callVv (as := []) (st := []) ddX11_sum_47 cvX11_239 rfl (hgX11_part A5 _ hv) rfl hd (Nat.le_of_ble_eq_true rfl) ?_
          clear hv
          refine ru_aload_n ddX11_sum_50 rfl ?_
          refine ru_iload_n ddX11_sum_51 rfl ?_
          obtain ⟨A7, hv, h⟩ := ruB_inv h
          refine ru_callVv (as := [.int v4]) (st := []) ddX11_sum_52 cvX11_226 rfl (wX11_emit 1 (Nat.le_refl _) v4 A6 hv) rfl (by omega) (Nat.le_of_ble_eq_true rfl) ?_
          clear hv
          refine ru_goto 4 ddX11_sum_55 (by decide) ?_
          refine ru_wk (L2 := [some (rurf E 83), none]) ⟨rfl, trivial⟩ ?_
          exact ih A7 h
      replace h := hq
      clear hq
      refine ru_if_eq 37 ddX11_sum_28 (by decide) (fun hc => ?_) (fun hc => ?_)
      · rw [if_pos hc] at h
        refine ru_sipush (10101 : Int32) ddX11_sum_37 rfl ?_
        obtain rfl := ruS1 h
        exact J
      · rw [if_neg hc] at h
        refine ru_sipush (10100 : Int32) ddX11_sum_31 rfl ?_
        refine ru_goto 40 ddX11_sum_34 (by decide) ?_
        obtain rfl := ruS1 h
        exact J
    · rw [if_pos hc] at h
      refine ru_aload_n ddX11_sum_13 rfl ?_
      refine ru_bipush (45 : Int32) ddX11_sum_14 rfl ?_
      obtain ⟨v8, hv, h⟩ := ruB_inv h
      refine ru_callVi (as := [.int (45 : Int32)]) (st := []) ddX11_sum_16 cvX11_219 rfl (wX11_isSign 1 (Nat.le_refl _) (45 : Int32) A hv) rfl (by omega) (Nat.le_of_ble_eq_true rfl) ?_
      clear hv
      refine ru_if_eq 58 ddX11_sum_19 (by decide) (fun hc => ?_) (fun hc => ?_)
      · rw [if_pos hc] at h
        refine ru_wk (L2 := [none, none]) trivial ?_
        exact hk58 A h
      · rw [if_neg hc] at h
        refine ru_aload_n ddX11_sum_22 rfl ?_
        refine ru_bipush (43 : Int32) ddX11_sum_23 rfl ?_
        obtain ⟨v9, hv, h⟩ := ruB_inv h
        refine ru_callVi (as := [.int (43 : Int32)]) (st := []) ddX11_sum_25 cvX11_219 rfl (wX11_isSign 1 (Nat.le_refl _) (43 : Int32) A hv) rfl (by omega) (Nat.le_of_ble_eq_true rfl) ?_
        clear hv
        obtain ⟨v10, hq, h⟩ := ruB_inv h
        have J : ruW E mmX11_sum d Q 40 [some (rurf E 83), none] [.int v10] A := by
            refine ru_istore_n ddX11_sum_40 (by decide) rfl rfl ?_
            refine ru_aload_n ddX11_sum_41 rfl ?_
            refine ru_iconst (1 : Int32) ddX11_sum_42 rfl ?_
            obtain ⟨A11, hv, h⟩ := ruB_inv h
            refine ru_callVv (as := [.int (1 : Int32)]) (st := []) ddX11_sum_43 cvX11_222 rfl (wX11_need 4 (Nat.le_refl _) (1 : Int32) A hv) rfl (by omega) (Nat.le_of_ble_eq_true rfl) ?_
            clear hv
            refine ru_aload_n ddX11_sum_46 rfl ?_
            obtain ⟨A12, hv, h⟩ := ruB_inv h
            refine ru_callVv (as := []) (st := []) ddX11_sum_47 cvX11_239 rfl (hgX11_part A11 _ hv) rfl hd (Nat.le_of_ble_eq_true rfl) ?_
            clear hv
            refine ru_aload_n ddX11_sum_50 rfl ?_
            refine ru_iload_n ddX11_sum_51 rfl ?_
            obtain ⟨A13, hv, h⟩ := ruB_inv h
            refine ru_callVv (as := [.int v10]) (st := []) ddX11_sum_52 cvX11_226 rfl (wX11_emit 1 (Nat.le_refl _) v10 A12 hv) rfl (by omega) (Nat.le_of_ble_eq_true rfl) ?_
            clear hv
            refine ru_goto 4 ddX11_sum_55 (by decide) ?_
            refine ru_wk (L2 := [some (rurf E 83), none]) ⟨rfl, trivial⟩ ?_
            exact ih A13 h
        replace h := hq
        clear hq
        refine ru_if_eq 37 ddX11_sum_28 (by decide) (fun hc => ?_) (fun hc => ?_)
        · rw [if_pos hc] at h
          refine ru_sipush (10101 : Int32) ddX11_sum_37 rfl ?_
          obtain rfl := ruS1 h
          exact J
        · rw [if_neg hc] at h
          refine ru_sipush (10100 : Int32) ddX11_sum_31 rfl ?_
          refine ru_goto 40 ddX11_sum_34 (by decide) ?_
          obtain rfl := ruS1 h
          exact J
theorem wX11_sum {E : ruE} (d : Nat) {dg : Nat} {gX11_part : ruA → Option (ruA)} (hgX11_part : ∀ (A B : ruA), gX11_part  A = some B → ruC E mmX11_part dg [rurf E 83] A (ruPv B)) (hdg : 19 ≤ dg) (hd : dg + 1 ≤ d) (A : ruA) {B : ruA} (h : fX11_sum gX11_part A = some B) : ruC E mmX11_sum d [rurf E 83] A (ruPv B) := by
  refine ruC.of (L := [some (rurf E 83), none]) (by decide) rfl (Nat.le_of_ble_eq_true rfl) rfl ?_
  unfold fX11_sum at h
  refine ru_aload_n ddX11_sum_0 rfl ?_
  obtain ⟨A1, hv, h⟩ := ruB_inv h
  refine ru_callVv (as := []) (st := []) ddX11_sum_1 cvX11_239 rfl (hgX11_part A _ hv) rfl hd (Nat.le_of_ble_eq_true rfl) ?_
  clear hv
  exact wX11_sum_l4 hgX11_part hdg hd (fun A14 h => by
        exact ru_vretW ddX11_sum_58 rfl h) ruF A1 h
theorem wX11_not {E : ruE} (d : Nat) {dg : Nat} {gX11_sum : ruA → Option (ruA)} {gX11_not : ruA → Option (ruA)} (hgX11_sum : ∀ (A B : ruA), gX11_sum  A = some B → ruC E mmX11_sum dg [rurf E 83] A (ruPv B)) (hgX11_not : ∀ (A B : ruA), gX11_not  A = some B → ruC E mmX11_not dg [rurf E 83] A (ruPv B)) (hdg : 19 ≤ dg) (hd : dg + 1 ≤ d) (A : ruA) {B : ruA} (h : fX11_not gX11_sum gX11_not A = some B) : ruC E mmX11_not d [rurf E 83] A (ruPv B) := by
  refine ruC.of (L := [some (rurf E 83), none]) (by decide) rfl (Nat.le_of_ble_eq_true rfl) rfl ?_
  unfold fX11_not at h
  refine ru_aload_n ddX11_not_0 rfl ?_
  refine ru_bipush (33 : Int32) ddX11_not_1 rfl ?_
  obtain ⟨v1, hv, h⟩ := ruB_inv h
  refine ru_callVi (as := [.int (33 : Int32)]) (st := []) ddX11_not_3 cvX11_219 rfl (wX11_isSign 1 (Nat.le_refl _) (33 : Int32) A hv) rfl (by omega) (Nat.le_of_ble_eq_true rfl) ?_
  clear hv
  refine ru_if_eq 59 ddX11_not_6 (by decide) (fun hc => ?_) (fun hc => ?_)
  · rw [if_pos hc] at h
    refine ru_aload_n ddX11_not_59 rfl ?_
    obtain ⟨A2, hv, h⟩ := ruB_inv h
    refine ru_callVv (as := []) (st := []) ddX11_not_60 cvX11_236 rfl (hgX11_sum A _ hv) rfl hd (Nat.le_of_ble_eq_true rfl) ?_
    clear hv
    refine ru_aload_n ddX11_not_63 rfl ?_
    refine ru_bipush (60 : Int32) ddX11_not_64 rfl ?_
    obtain ⟨v3, hv, h⟩ := ruB_inv h
    refine ru_callVi (as := [.int (60 : Int32)]) (st := []) ddX11_not_66 cvX11_219 rfl (wX11_isSign 1 (Nat.le_refl _) (60 : Int32) A2 hv) rfl (by omega) (Nat.le_of_ble_eq_true rfl) ?_
    clear hv
    obtain ⟨v4, hq, h⟩ := ruB_inv h
    have J : ruW E mmX11_not d (ruPv B) 109 [some (rurf E 83), none] [.int v4] A2 := by
        refine ru_istore_n ddX11_not_109 (by decide) rfl rfl ?_
        refine ru_iload_n ddX11_not_110 rfl ?_
        refine ru_if_le 128 ddX11_not_111 (by decide) (fun hc => ?_) (fun hc => ?_)
        · rw [if_pos hc] at h
          exact ru_vretW ddX11_not_128 rfl h
        · rw [if_neg hc] at h
          refine ru_aload_n ddX11_not_114 rfl ?_
          refine ru_iconst (1 : Int32) ddX11_not_115 rfl ?_
          obtain ⟨A7, hv, h⟩ := ruB_inv h
          refine ru_callVv (as := [.int (1 : Int32)]) (st := []) ddX11_not_116 cvX11_222 rfl (wX11_need 4 (Nat.le_refl _) (1 : Int32) A2 hv) rfl (by omega) (Nat.le_of_ble_eq_true rfl) ?_
          clear hv
          refine ru_aload_n ddX11_not_119 rfl ?_
          obtain ⟨A8, hv, h⟩ := ruB_inv h
          refine ru_callVv (as := []) (st := []) ddX11_not_120 cvX11_236 rfl (hgX11_sum A7 _ hv) rfl hd (Nat.le_of_ble_eq_true rfl) ?_
          clear hv
          refine ru_aload_n ddX11_not_123 rfl ?_
          refine ru_iload_n ddX11_not_124 rfl ?_
          obtain ⟨A9, hv, h⟩ := ruB_inv h
          refine ru_callVv (as := [.int v4]) (st := []) ddX11_not_125 cvX11_226 rfl (wX11_emit 1 (Nat.le_refl _) v4 A8 hv) rfl (by omega) (Nat.le_of_ble_eq_true rfl) ?_
          clear hv
          exact ru_vretW ddX11_not_128 rfl h
    replace h := hq
    clear hq
    refine ru_if_eq 78 ddX11_not_69 (by decide) (fun hc => ?_) (fun hc => ?_)
    · rw [if_pos hc] at h
      refine ru_aload_n ddX11_not_78 rfl ?_
      refine ru_bipush (61 : Int32) ddX11_not_79 rfl ?_
      obtain ⟨v5, hv, h⟩ := ruB_inv h
      refine ru_callVi (as := [.int (61 : Int32)]) (st := []) ddX11_not_81 cvX11_219 rfl (wX11_isSign 1 (Nat.le_refl _) (61 : Int32) A2 hv) rfl (by omega) (Nat.le_of_ble_eq_true rfl) ?_
      clear hv
      refine ru_if_eq 93 ddX11_not_84 (by decide) (fun hc => ?_) (fun hc => ?_)
      · rw [if_pos hc] at h
        refine ru_aload_n ddX11_not_93 rfl ?_
        refine ru_bipush (62 : Int32) ddX11_not_94 rfl ?_
        obtain ⟨v6, hv, h⟩ := ruB_inv h
        refine ru_callVi (as := [.int (62 : Int32)]) (st := []) ddX11_not_96 cvX11_219 rfl (wX11_isSign 1 (Nat.le_refl _) (62 : Int32) A2 hv) rfl (by omega) (Nat.le_of_ble_eq_true rfl) ?_
        clear hv
        refine ru_if_eq 108 ddX11_not_99 (by decide) (fun hc => ?_) (fun hc => ?_)
        · rw [if_pos hc] at h
          refine ru_iconst (0 : Int32) ddX11_not_108 rfl ?_
          obtain rfl := ruS1 h
          exact J
        · rw [if_neg hc] at h
          refine ru_sipush (10104 : Int32) ddX11_not_102 rfl ?_
          refine ru_goto 109 ddX11_not_105 (by decide) ?_
          obtain rfl := ruS1 h
          exact J
      · rw [if_neg hc] at h
        refine ru_sipush (10103 : Int32) ddX11_not_87 rfl ?_
        refine ru_goto 109 ddX11_not_90 (by decide) ?_
        obtain rfl := ruS1 h
        exact J
    · rw [if_neg hc] at h
      refine ru_sipush (10102 : Int32) ddX11_not_72 rfl ?_
      refine ru_goto 109 ddX11_not_75 (by decide) ?_
      obtain rfl := ruS1 h
      exact J
  · rw [if_neg hc] at h
    refine ru_aload_n ddX11_not_9 rfl ?_
    refine ru_aload_n ddX11_not_10 rfl ?_
    refine ru_getI ddX11_not_11 flX11_233 rfl ?_
    refine ru_bipush (6 : Int32) ddX11_not_14 rfl ?_
    obtain ⟨v10, hq, h⟩ := ruB_inv h
    have J : ruW E mmX11_not d (ruPv B) 24 [some (rurf E 83), none] [.int v10, rurf E 83] A := by
        obtain ⟨A11, hv, h⟩ := ruB_inv h
        refine ru_callVv (as := [.int v10]) (st := []) ddX11_not_24 cvX11_222 rfl (wX11_need 4 (Nat.le_refl _) v10 A hv) rfl (by omega) (Nat.le_of_ble_eq_true rfl) ?_
        clear hv
        refine ru_aload_n ddX11_not_27 rfl ?_
        refine ru_dup ddX11_not_28 rfl ?_
        refine ru_getI ddX11_not_29 flX11_233 rfl ?_
        refine ru_iconst (1 : Int32) ddX11_not_32 rfl ?_
        refine ru_iadd ddX11_not_33 ?_
        obtain ⟨A12, hv, h⟩ := ruB_inv h
        refine ru_putI2 ddX11_not_34 flX11_233 fp11_18 rfl hv ?_
        clear hv
        refine ru_aload_n ddX11_not_37 rfl ?_
        obtain ⟨A13, hv, h⟩ := ruB_inv h
        refine ru_callVv (as := []) (st := []) ddX11_not_38 cvX11_230 rfl (hgX11_not A12 _ hv) rfl hd (Nat.le_of_ble_eq_true rfl) ?_
        clear hv
        refine ru_aload_n ddX11_not_41 rfl ?_
        refine ru_dup ddX11_not_42 rfl ?_
        refine ru_getI ddX11_not_43 flX11_233 rfl ?_
        refine ru_iconst (1 : Int32) ddX11_not_46 rfl ?_
        refine ru_isub ddX11_not_47 ?_
        obtain ⟨A14, hv, h⟩ := ruB_inv h
        refine ru_putI2 ddX11_not_48 flX11_233 fp11_18 rfl hv ?_
        clear hv
        refine ru_aload_n ddX11_not_51 rfl ?_
        refine ru_sipush (10107 : Int32) ddX11_not_52 rfl ?_
        obtain ⟨A15, hv, h⟩ := ruB_inv h
        refine ru_callVv (as := [.int (10107 : Int32)]) (st := []) ddX11_not_55 cvX11_226 rfl (wX11_emit 1 (Nat.le_refl _) (10107 : Int32) A14 hv) rfl (by omega) (Nat.le_of_ble_eq_true rfl) ?_
        clear hv
        exact ru_vretW ddX11_not_58 rfl h
    replace h := hq
    clear hq
    refine ru_icmp_ge 23 ddX11_not_16 (by decide) (fun hc => ?_) (fun hc => ?_)
    · rw [if_pos hc] at h
      refine ru_iconst (0 : Int32) ddX11_not_23 rfl ?_
      obtain rfl := ruS1 h
      exact J
    · rw [if_neg hc] at h
      refine ru_iconst (1 : Int32) ddX11_not_19 rfl ?_
      refine ru_goto 24 ddX11_not_20 (by decide) ?_
      obtain rfl := ruS1 h
      exact J
theorem wX11_both_l4 {E : ruE} {d : Nat} {dg : Nat} {gX11_not : ruA → Option (ruA)} (hgX11_not : ∀ (A B : ruA), gX11_not  A = some B → ruC E mmX11_not dg [rurf E 83] A (ruPv B)) (hdg : 19 ≤ dg) (hd : dg + 1 ≤ d) {β : Type} {Q : Option Value → ruA → Prop} {res : β} {k32 : ruA → Option (β)} (hk32 : ∀ (A : ruA), k32 A = some res → ruW E mmX11_both d Q 32 [none] [] A) : ∀ (n : Nat) (A : ruA), fX11_both_l4 gX11_not k32 n A = some res → ruW E mmX11_both d Q 4 [some (rurf E 83)] [] A := by
  intro n
  induction n with
  | zero =>
    intro A h
    exact absurd h (by rw [fX11_both_l4]; exact fun h => nomatch h)
  | succ n ih =>
    intro A h
    rw [fX11_both_l4] at h
    refine ru_aload_n ddX11_both_4 rfl ?_
    refine ru_bipush (38 : Int32) ddX11_both_5 rfl ?_
    obtain ⟨v2, hv, h⟩ := ruB_inv h
    refine ru_callVi (as := [.int (38 : Int32)]) (st := []) ddX11_both_7 cvX11_219 rfl (wX11_isSign 1 (Nat.le_refl _) (38 : Int32) A hv) rfl (by omega) (Nat.le_of_ble_eq_true rfl) ?_
    clear hv
    refine ru_if_eq 32 ddX11_both_10 (by decide) (fun hc => ?_) (fun hc => ?_)
    · rw [if_pos hc] at h
      refine ru_wk (L2 := [none]) trivial ?_
      exact hk32 A h
    · rw [if_neg hc] at h
      refine ru_aload_n ddX11_both_13 rfl ?_
      refine ru_iconst (1 : Int32) ddX11_both_14 rfl ?_
      obtain ⟨A3, hv, h⟩ := ruB_inv h
      refine ru_callVv (as := [.int (1 : Int32)]) (st := []) ddX11_both_15 cvX11_222 rfl (wX11_need 4 (Nat.le_refl _) (1 : Int32) A hv) rfl (by omega) (Nat.le_of_ble_eq_true rfl) ?_
      clear hv
      refine ru_aload_n ddX11_both_18 rfl ?_
      obtain ⟨A4, hv, h⟩ := ruB_inv h
      refine ru_callVv (as := []) (st := []) ddX11_both_19 cvX11_230 rfl (hgX11_not A3 _ hv) rfl hd (Nat.le_of_ble_eq_true rfl) ?_
      clear hv
      refine ru_aload_n ddX11_both_22 rfl ?_
      refine ru_sipush (10105 : Int32) ddX11_both_23 rfl ?_
      obtain ⟨A5, hv, h⟩ := ruB_inv h
      refine ru_callVv (as := [.int (10105 : Int32)]) (st := []) ddX11_both_26 cvX11_226 rfl (wX11_emit 1 (Nat.le_refl _) (10105 : Int32) A4 hv) rfl (by omega) (Nat.le_of_ble_eq_true rfl) ?_
      clear hv
      refine ru_goto 4 ddX11_both_29 (by decide) ?_
      exact ih A5 h
theorem wX11_both {E : ruE} (d : Nat) {dg : Nat} {gX11_not : ruA → Option (ruA)} (hgX11_not : ∀ (A B : ruA), gX11_not  A = some B → ruC E mmX11_not dg [rurf E 83] A (ruPv B)) (hdg : 19 ≤ dg) (hd : dg + 1 ≤ d) (A : ruA) {B : ruA} (h : fX11_both gX11_not A = some B) : ruC E mmX11_both d [rurf E 83] A (ruPv B) := by
  refine ruC.of (L := [some (rurf E 83)]) (by decide) rfl (Nat.le_of_ble_eq_true rfl) rfl ?_
  unfold fX11_both at h
  refine ru_aload_n ddX11_both_0 rfl ?_
  obtain ⟨A1, hv, h⟩ := ruB_inv h
  refine ru_callVv (as := []) (st := []) ddX11_both_1 cvX11_230 rfl (hgX11_not A _ hv) rfl hd (Nat.le_of_ble_eq_true rfl) ?_
  clear hv
  exact wX11_both_l4 hgX11_not hdg hd (fun A6 h => by
        exact ru_vretW ddX11_both_32 rfl h) ruF A1 h
theorem wX11_either_l4 {E : ruE} {d : Nat} {dg : Nat} {gX11_both : ruA → Option (ruA)} (hgX11_both : ∀ (A B : ruA), gX11_both  A = some B → ruC E mmX11_both dg [rurf E 83] A (ruPv B)) (hdg : 19 ≤ dg) (hd : dg + 1 ≤ d) {β : Type} {Q : Option Value → ruA → Prop} {res : β} {k32 : ruA → Option (β)} (hk32 : ∀ (A : ruA), k32 A = some res → ruW E mmX11_either d Q 32 [none] [] A) : ∀ (n : Nat) (A : ruA), fX11_either_l4 gX11_both k32 n A = some res → ruW E mmX11_either d Q 4 [some (rurf E 83)] [] A := by
  intro n
  induction n with
  | zero =>
    intro A h
    exact absurd h (by rw [fX11_either_l4]; exact fun h => nomatch h)
  | succ n ih =>
    intro A h
    rw [fX11_either_l4] at h
    refine ru_aload_n ddX11_either_4 rfl ?_
    refine ru_bipush (124 : Int32) ddX11_either_5 rfl ?_
    obtain ⟨v2, hv, h⟩ := ruB_inv h
    refine ru_callVi (as := [.int (124 : Int32)]) (st := []) ddX11_either_7 cvX11_219 rfl (wX11_isSign 1 (Nat.le_refl _) (124 : Int32) A hv) rfl (by omega) (Nat.le_of_ble_eq_true rfl) ?_
    clear hv
    refine ru_if_eq 32 ddX11_either_10 (by decide) (fun hc => ?_) (fun hc => ?_)
    · rw [if_pos hc] at h
      refine ru_wk (L2 := [none]) trivial ?_
      exact hk32 A h
    · rw [if_neg hc] at h
      refine ru_aload_n ddX11_either_13 rfl ?_
      refine ru_iconst (1 : Int32) ddX11_either_14 rfl ?_
      obtain ⟨A3, hv, h⟩ := ruB_inv h
      refine ru_callVv (as := [.int (1 : Int32)]) (st := []) ddX11_either_15 cvX11_222 rfl (wX11_need 4 (Nat.le_refl _) (1 : Int32) A hv) rfl (by omega) (Nat.le_of_ble_eq_true rfl) ?_
      clear hv
      refine ru_aload_n ddX11_either_18 rfl ?_
      obtain ⟨A4, hv, h⟩ := ruB_inv h
      refine ru_callVv (as := []) (st := []) ddX11_either_19 cvX11_216 rfl (hgX11_both A3 _ hv) rfl hd (Nat.le_of_ble_eq_true rfl) ?_
      clear hv
      refine ru_aload_n ddX11_either_22 rfl ?_
      refine ru_sipush (10106 : Int32) ddX11_either_23 rfl ?_
      obtain ⟨A5, hv, h⟩ := ruB_inv h
      refine ru_callVv (as := [.int (10106 : Int32)]) (st := []) ddX11_either_26 cvX11_226 rfl (wX11_emit 1 (Nat.le_refl _) (10106 : Int32) A4 hv) rfl (by omega) (Nat.le_of_ble_eq_true rfl) ?_
      clear hv
      refine ru_goto 4 ddX11_either_29 (by decide) ?_
      exact ih A5 h
theorem wX11_either {E : ruE} (d : Nat) {dg : Nat} {gX11_both : ruA → Option (ruA)} (hgX11_both : ∀ (A B : ruA), gX11_both  A = some B → ruC E mmX11_both dg [rurf E 83] A (ruPv B)) (hdg : 19 ≤ dg) (hd : dg + 1 ≤ d) (A : ruA) {B : ruA} (h : fX11_either gX11_both A = some B) : ruC E mmX11_either d [rurf E 83] A (ruPv B) := by
  refine ruC.of (L := [some (rurf E 83)]) (by decide) rfl (Nat.le_of_ble_eq_true rfl) rfl ?_
  unfold fX11_either at h
  refine ru_aload_n ddX11_either_0 rfl ?_
  obtain ⟨A1, hv, h⟩ := ruB_inv h
  refine ru_callVv (as := []) (st := []) ddX11_either_1 cvX11_216 rfl (hgX11_both A _ hv) rfl hd (Nat.le_of_ble_eq_true rfl) ?_
  clear hv
  exact wX11_either_l4 hgX11_both hdg hd (fun A6 h => by
        exact ru_vretW ddX11_either_32 rfl h) ruF A1 h
theorem wX11_notK {E : ruE} {e : ruA → Option ruA} {dg : Nat} (hdg : 19 ≤ dg) (he : ∀ (A B : ruA), e A = some B → ruC E mmX11_either dg [rurf E 83] A (ruPv B)) : ∀ (n : Nat) (A B : ruA), fX11_notK e n A = some B → ruC E mmX11_not (dg + 4 + n) [rurf E 83] A (ruPv B) := by
  intro n
  induction n with
  | zero =>
    intro A B h
    exact absurd h (by rw [fX11_notK]; exact fun h => nomatch h)
  | succ n ih =>
    intro A B h
    rw [fX11_notK] at h
    exact wX11_not (dg + 4 + (n + 1)) (dg := dg + 4 + n) (fun A B h => wX11_sum (dg + 4 + n) (dg := dg + 1) (fun A B h => wX11_part (dg + 1) (dg := dg) he hdg (Nat.le_refl _) A h) (by omega) (by omega) A h) ih (by omega) (by omega) A h
theorem wX11_eitherK {E : ruE} : ∀ (n : Nat) (A B : ruA), fX11_eitherK n A = some B → ruC E mmX11_either (19 + 17 * n) [rurf E 83] A (ruPv B) := by
  intro n
  induction n with
  | zero =>
    intro A B h
    exact absurd h (by rw [fX11_eitherK]; exact fun h => nomatch h)
  | succ n ih =>
    intro A B h
    rw [fX11_eitherK] at h
    exact wX11_either (19 + 17 * (n + 1)) (dg := 19 + 17 * n + 15) (fun A B h => wX11_both (19 + 17 * n + 15) (dg := 19 + 17 * n + 14) (fun A B h => wX11_notK (by omega) ih 10 A B h) (by omega) (by omega) A h) (by omega) (by omega) A h
theorem wX11_eitherT {E : ruE} (d : Nat) (hd : 189 ≤ d) (A : ruA) {B : ruA} (h : fX11_eitherT A = some B) : ruC E mmX11_either 189 [rurf E 83] A (ruPv B) := wX11_eitherK 10 A B h
theorem wX11_way_l116 {E : ruE} {d : Nat} (hd : 190 ≤ d) {β : Type} {Q : Option Value → ruA → Prop} {res : β} (x2 : Int32) {k146 : ruA → Option (β)} (hk146 : ∀ (A : ruA), k146 A = some res → ruW E mmX11_way d Q 146 [some (rurf E 83), none, none, none] [] A) : ∀ (n : Nat) (x3 : Int32) (A : ruA), fX11_way_l116 x2 k146 n x3 A = some res → ruW E mmX11_way d Q 116 [some (rurf E 83), none, some (.int x2), some (.int x3)] [] A := by
  intro n
  induction n with
  | zero =>
    intro x3 A h
    exact absurd h (by rw [fX11_way_l116]; exact fun h => nomatch h)
  | succ n ih =>
    intro x3 A h
    rw [fX11_way_l116] at h
    refine ru_iload_n ddX11_way_116 rfl ?_
    refine ru_aload_n ddX11_way_117 rfl ?_
    refine ru_getI ddX11_way_118 flX11_213 rfl ?_
    refine ru_icmp_ge 146 ddX11_way_121 (by decide) (fun hc => ?_) (fun hc => ?_)
    · rw [if_pos hc] at h
      refine ru_wk (L2 := [some (rurf E 83), none, none, none]) ⟨rfl, trivial⟩ ?_
      exact hk146 A h
    · rw [if_neg hc] at h
      refine ru_aload_n ddX11_way_124 rfl ?_
      refine ru_getR (r := 84) ddX11_way_125 flX11_9 rfl rfl ?_
      refine ru_iload_n ddX11_way_128 rfl ?_
      refine ru_iconst (1 : Int32) ddX11_way_129 rfl ?_
      refine ru_iadd ddX11_way_130 ?_
      refine ru_iload_n ddX11_way_131 rfl ?_
      refine ru_iadd ddX11_way_132 ?_
      refine ru_aload_n ddX11_way_133 rfl ?_
      refine ru_getR (r := 92) ddX11_way_134 flX11_49 rfl rfl ?_
      refine ru_iload_n ddX11_way_137 rfl ?_
      obtain ⟨v13, hv, h⟩ := ruB_inv h
      refine ru_iald ddX11_way_138 rfl hv ?_
      clear hv
      obtain ⟨A14, hv, h⟩ := ruB_inv h
      refine ru_iast ddX11_way_139 rfl hv ?_
      clear hv
      refine ru_iinc (x3 + (1 : Int32)) ddX11_way_140 (by decide) rfl rfl rfl rfl ?_
      refine ru_goto 116 ddX11_way_143 (by decide) ?_
      exact ih (x3 + (1 : Int32)) A14 h
theorem wX11_way {E : ruE} (d : Nat) (hd : 190 ≤ d) (A : ruA) {r : Int32} {B : ruA} (h : fX11_way A = some (r, B)) : ruC E mmX11_way d [rurf E 83] A (ruPr r B) := by
  refine ruC.of (L := [some (rurf E 83), none, none, none]) (by decide) rfl (Nat.le_of_ble_eq_true rfl) rfl ?_
  unfold fX11_way at h
  refine ru_aload_n ddX11_way_0 rfl ?_
  refine ru_getR (r := 84) ddX11_way_1 flX11_9 rfl rfl ?_
  refine ru_iconst (3 : Int32) ddX11_way_4 rfl ?_
  obtain ⟨v1, hv, h⟩ := ruB_inv h
  refine ru_iald ddX11_way_5 rfl hv ?_
  clear hv
  refine ru_bipush (6 : Int32) ddX11_way_6 rfl ?_
  refine ru_icmp_ne 18 ddX11_way_8 (by decide) (fun hc => ?_) (fun hc => ?_)
  · rw [if_neg hc] at h
    refine ru_aload_n ddX11_way_18 rfl ?_
    refine ru_iconst (0 : Int32) ddX11_way_19 rfl ?_
    obtain ⟨A2, hv, h⟩ := ruB_inv h
    refine ru_putI2 ddX11_way_20 flX11_186 fp11_16 rfl hv ?_
    clear hv
    refine ru_aload_n ddX11_way_23 rfl ?_
    refine ru_iconst (0 : Int32) ddX11_way_24 rfl ?_
    obtain ⟨A3, hv, h⟩ := ruB_inv h
    refine ru_putZ2 ddX11_way_25 flX11_198 fp11_17 rfl (Or.inl rfl) hv ?_
    clear hv
    refine ru_aload_n ddX11_way_28 rfl ?_
    refine ru_iconst (0 : Int32) ddX11_way_29 rfl ?_
    obtain ⟨A4, hv, h⟩ := ruB_inv h
    refine ru_putI2 ddX11_way_30 flX11_233 fp11_18 rfl hv ?_
    clear hv
    refine ru_aload_n ddX11_way_33 rfl ?_
    refine ru_iconst (0 : Int32) ddX11_way_34 rfl ?_
    obtain ⟨A5, hv, h⟩ := ruB_inv h
    refine ru_putI2 ddX11_way_35 flX11_213 fp11_20 rfl hv ?_
    clear hv
    refine ru_aload_n ddX11_way_38 rfl ?_
    obtain ⟨A6, hv, h⟩ := ruB_inv h
    refine ru_callVv (as := []) (st := []) ddX11_way_39 cvX11_202 rfl (wX11_next 3 (Nat.le_refl _) A5 hv) rfl (Nat.le_trans (m := 190) (by decide) hd) (Nat.le_of_ble_eq_true rfl) ?_
    clear hv
    refine ru_aload_n ddX11_way_42 rfl ?_
    obtain ⟨A7, hv, h⟩ := ruB_inv h
    refine ru_callVv (as := []) (st := []) ddX11_way_43 cvX11_246 rfl (wX11_eitherT 189 (Nat.le_refl _) A6 hv) rfl (Nat.le_trans (m := 190) (by decide) hd) (Nat.le_of_ble_eq_true rfl) ?_
    clear hv
    refine ru_aload_n ddX11_way_46 rfl ?_
    refine ru_aload_n ddX11_way_47 rfl ?_
    refine ru_getI ddX11_way_48 flX11_198 rfl ?_
    obtain ⟨v8, hq, h⟩ := ruB_inv h
    have J : ruW E mmX11_way d (ruPr r B) 66 [some (rurf E 83), none, none, none] [.int v8, rurf E 83] A7 := by
        obtain ⟨_, hz, h⟩ := ruB_inv h
        obtain ⟨A9, hv, h⟩ := ruB_inv h
        refine ru_putZ2 ddX11_way_66 flX11_198 fp11_17 rfl (rubz_eq hz) hv ?_
        clear hv
        refine ru_aload_n ddX11_way_69 rfl ?_
        refine ru_getI ddX11_way_70 flX11_189 rfl ?_
        refine ru_istore_n ddX11_way_73 (by decide) rfl rfl ?_
        refine ru_aload_n ddX11_way_74 rfl ?_
        refine ru_iconst (0 : Int32) ddX11_way_75 rfl ?_
        obtain ⟨A10, hv, h⟩ := ruB_inv h
        refine ru_putI2 ddX11_way_76 flX11_183 fp11_6 rfl hv ?_
        clear hv
        refine ru_aload_n ddX11_way_79 rfl ?_
        refine ru_getI ddX11_way_80 flX11_198 rfl ?_
        refine ru_if_eq 90 ddX11_way_83 (by decide) (fun hc => ?_) (fun hc => ?_)
        · rw [if_pos hc] at h
          refine ru_sipush (4160 : Int32) ddX11_way_90 rfl ?_
          refine ru_bipush (104 : Int32) ddX11_way_93 rfl ?_
          refine ru_aload_n ddX11_way_95 rfl ?_
          refine ru_getR (r := 84) ddX11_way_96 flX11_9 rfl rfl ?_
          refine ru_iconst (3 : Int32) ddX11_way_99 rfl ?_
          obtain ⟨v11, hv, h⟩ := ruB_inv h
          refine ru_iald ddX11_way_100 rfl hv ?_
          clear hv
          refine ru_imul ddX11_way_101 ?_
          refine ru_iadd ddX11_way_102 ?_
          refine ru_istore_n ddX11_way_103 (by decide) rfl rfl ?_
          refine ru_aload_n ddX11_way_104 rfl ?_
          refine ru_getR (r := 84) ddX11_way_105 flX11_9 rfl rfl ?_
          refine ru_iload_n ddX11_way_108 rfl ?_
          refine ru_aload_n ddX11_way_109 rfl ?_
          refine ru_getI ddX11_way_110 flX11_213 rfl ?_
          obtain ⟨A12, hv, h⟩ := ruB_inv h
          refine ru_iast ddX11_way_113 rfl hv ?_
          clear hv
          refine ru_iconst (0 : Int32) ddX11_way_114 rfl ?_
          refine ru_istore_n ddX11_way_115 (by decide) rfl rfl ?_
          refine ru_wk (L2 := [some (rurf E 83), none, some (.int ((4160 : Int32) + ((104 : Int32) * v11))), some (.int (0 : Int32))]) ⟨rfl, rfl, rfl, trivial⟩ ?_
          exact wX11_way_l116 hd ((4160 : Int32) + ((104 : Int32) * v11)) (fun A15 h => by
                refine ru_aload_n ddX11_way_146 rfl ?_
                refine ru_getR (r := 84) ddX11_way_147 flX11_9 rfl rfl ?_
                refine ru_iconst (3 : Int32) ddX11_way_150 rfl ?_
                refine ru_dup2 ddX11_way_151 rfl rfl ?_
                obtain ⟨v16, hv, h⟩ := ruB_inv h
                refine ru_iald ddX11_way_152 rfl hv ?_
                clear hv
                refine ru_iconst (1 : Int32) ddX11_way_153 rfl ?_
                refine ru_iadd ddX11_way_154 ?_
                obtain ⟨A17, hv, h⟩ := ruB_inv h
                refine ru_iast ddX11_way_155 rfl hv ?_
                clear hv
                refine ru_aload_n ddX11_way_156 rfl ?_
                refine ru_getR (r := 84) ddX11_way_157 flX11_9 rfl rfl ?_
                refine ru_iconst (3 : Int32) ddX11_way_160 rfl ?_
                obtain ⟨v18, hv, h⟩ := ruB_inv h
                refine ru_iald ddX11_way_161 rfl hv ?_
                clear hv
                refine ru_iconst (1 : Int32) ddX11_way_162 rfl ?_
                refine ru_isub ddX11_way_163 ?_
                exact ru_iretW ddX11_way_164 rfl h) ruF (0 : Int32) A12 h
        · rw [if_neg hc] at h
          refine ru_iconst (-1 : Int32) ddX11_way_86 rfl ?_
          refine ru_iload_n ddX11_way_87 rfl ?_
          refine ru_isub ddX11_way_88 ?_
          exact ru_iretW ddX11_way_89 rfl h
    replace h := hq
    clear hq
    refine ru_if_ne 61 ddX11_way_51 (by decide) (fun hc => ?_) (fun hc => ?_)
    · rw [if_neg hc] at h
      refine ru_iconst (1 : Int32) ddX11_way_61 rfl ?_
      refine ru_goto 66 ddX11_way_62 (by decide) ?_
      obtain rfl := ruS1 h
      exact J
    · rw [if_pos hc] at h
      refine ru_aload_n ddX11_way_54 rfl ?_
      refine ru_getI ddX11_way_55 flX11_192 rfl ?_
      refine ru_if_eq 65 ddX11_way_58 (by decide) (fun hc => ?_) (fun hc => ?_)
      · rw [if_pos hc] at h
        refine ru_iconst (0 : Int32) ddX11_way_65 rfl ?_
        obtain rfl := ruS1 h
        exact J
      · rw [if_neg hc] at h
        refine ru_iconst (1 : Int32) ddX11_way_61 rfl ?_
        refine ru_goto 66 ddX11_way_62 (by decide) ?_
        obtain rfl := ruS1 h
        exact J
  · rw [if_pos hc] at h
    refine ru_aload_n ddX11_way_11 rfl ?_
    refine ru_ldc (v := (-1000002 : Int32)) ddX11_way_12 ckX11_86 ?_
    obtain ⟨v19, A20, hv, h⟩ := ruB2_inv h
    refine ru_callVi (as := [.int (-1000002 : Int32)]) (st := []) ddX11_way_14 cvX11_82 rfl (wX11_finding 1 (Nat.le_refl _) (-1000002 : Int32) A hv) rfl (Nat.le_trans (m := 190) (by decide) hd) (Nat.le_of_ble_eq_true rfl) ?_
    clear hv
    exact ru_iretW ddX11_way_17 rfl h
theorem wX11_done {E : ruE} (d : Nat) (hd : 1 ≤ d) (x0 : Int32) (x1 : Int32) (x2 : Int32) (A : ruA) {r : Int32} (h : fX11_done x0 x1 x2 = some r) : ruC E mmX11_done d [.int x0, .int x1, .int x2] A (ruPr r A) := by
  refine ruC.of (L := [some (.int x0), some (.int x1), some (.int x2)]) (by decide) rfl (Nat.le_of_ble_eq_true rfl) rfl ?_
  unfold fX11_done at h
  refine ru_iload_n ddX11_done_0 rfl ?_
  by_cases hc0 : x0 = (10100 : Int32)
  · rw [if_pos hc0] at h
    refine ru_tabC 40 ddX11_done_1 hc0 ⟨by decide, by decide, _, rfl, by decide⟩ ?_
    refine ru_iload_n ddX11_done_40 rfl ?_
    refine ru_iload_n ddX11_done_41 rfl ?_
    refine ru_iadd ddX11_done_42 ?_
    exact ru_iretP ddX11_done_43 rfl h
  · rw [if_neg hc0] at h
    by_cases hc1 : x0 = (10101 : Int32)
    · rw [if_pos hc1] at h
      refine ru_tabC 44 ddX11_done_1 hc1 ⟨by decide, by decide, _, rfl, by decide⟩ ?_
      refine ru_iload_n ddX11_done_44 rfl ?_
      refine ru_iload_n ddX11_done_45 rfl ?_
      refine ru_isub ddX11_done_46 ?_
      exact ru_iretP ddX11_done_47 rfl h
    · rw [if_neg hc1] at h
      by_cases hc2 : x0 = (10102 : Int32)
      · rw [if_pos hc2] at h
        refine ru_tabC 48 ddX11_done_1 hc2 ⟨by decide, by decide, _, rfl, by decide⟩ ?_
        refine ru_iload_n ddX11_done_48 rfl ?_
        refine ru_iload_n ddX11_done_49 rfl ?_
        refine ru_icmp_ge 57 ddX11_done_50 (by decide) (fun hc => ?_) (fun hc => ?_)
        · rw [if_pos hc] at h
          refine ru_iconst (0 : Int32) ddX11_done_57 rfl ?_
          exact ru_iretP ddX11_done_58 rfl h
        · rw [if_neg hc] at h
          refine ru_iconst (1 : Int32) ddX11_done_53 rfl ?_
          refine ru_goto 58 ddX11_done_54 (by decide) ?_
          exact ru_iretP ddX11_done_58 rfl h
      · rw [if_neg hc2] at h
        by_cases hc3 : x0 = (10103 : Int32)
        · rw [if_pos hc3] at h
          refine ru_tabC 59 ddX11_done_1 hc3 ⟨by decide, by decide, _, rfl, by decide⟩ ?_
          refine ru_iload_n ddX11_done_59 rfl ?_
          refine ru_iload_n ddX11_done_60 rfl ?_
          refine ru_icmp_ne 68 ddX11_done_61 (by decide) (fun hc => ?_) (fun hc => ?_)
          · rw [if_neg hc] at h
            refine ru_iconst (0 : Int32) ddX11_done_68 rfl ?_
            exact ru_iretP ddX11_done_69 rfl h
          · rw [if_pos hc] at h
            refine ru_iconst (1 : Int32) ddX11_done_64 rfl ?_
            refine ru_goto 69 ddX11_done_65 (by decide) ?_
            exact ru_iretP ddX11_done_69 rfl h
        · rw [if_neg hc3] at h
          by_cases hc4 : x0 = (10104 : Int32)
          · rw [if_pos hc4] at h
            refine ru_tabC 70 ddX11_done_1 hc4 ⟨by decide, by decide, _, rfl, by decide⟩ ?_
            refine ru_iload_n ddX11_done_70 rfl ?_
            refine ru_iload_n ddX11_done_71 rfl ?_
            refine ru_icmp_le 79 ddX11_done_72 (by decide) (fun hc => ?_) (fun hc => ?_)
            · rw [if_pos hc] at h
              refine ru_iconst (0 : Int32) ddX11_done_79 rfl ?_
              exact ru_iretP ddX11_done_80 rfl h
            · rw [if_neg hc] at h
              refine ru_iconst (1 : Int32) ddX11_done_75 rfl ?_
              refine ru_goto 80 ddX11_done_76 (by decide) ?_
              exact ru_iretP ddX11_done_80 rfl h
          · rw [if_neg hc4] at h
            by_cases hc5 : x0 = (10105 : Int32)
            · rw [if_pos hc5] at h
              refine ru_tabC 81 ddX11_done_1 hc5 ⟨by decide, by decide, _, rfl, by decide⟩ ?_
              refine ru_iload_n ddX11_done_81 rfl ?_
              refine ru_if_eq 93 ddX11_done_82 (by decide) (fun hc => ?_) (fun hc => ?_)
              · rw [if_pos hc] at h
                refine ru_iconst (0 : Int32) ddX11_done_93 rfl ?_
                exact ru_iretP ddX11_done_94 rfl h
              · rw [if_neg hc] at h
                refine ru_iload_n ddX11_done_85 rfl ?_
                refine ru_if_eq 93 ddX11_done_86 (by decide) (fun hc => ?_) (fun hc => ?_)
                · rw [if_pos hc] at h
                  refine ru_iconst (0 : Int32) ddX11_done_93 rfl ?_
                  exact ru_iretP ddX11_done_94 rfl h
                · rw [if_neg hc] at h
                  refine ru_iconst (1 : Int32) ddX11_done_89 rfl ?_
                  refine ru_goto 94 ddX11_done_90 (by decide) ?_
                  exact ru_iretP ddX11_done_94 rfl h
            · rw [if_neg hc5] at h
              refine ru_tabD 95 ddX11_done_1 (fun j h9 => ?_) (by decide) ?_
              · have h8 : j = 0 ∨ j = 1 ∨ j = 2 ∨ j = 3 ∨ j = 4 ∨ j = 5 := by omega
                rcases h8 with rfl | rfl | rfl | rfl | rfl | rfl
                · exact fun e => hc0 (e.trans (by decide))
                · exact fun e => hc1 (e.trans (by decide))
                · exact fun e => hc2 (e.trans (by decide))
                · exact fun e => hc3 (e.trans (by decide))
                · exact fun e => hc4 (e.trans (by decide))
                · exact fun e => hc5 (e.trans (by decide))
              refine ru_iload_n ddX11_done_95 rfl ?_
              refine ru_if_ne 103 ddX11_done_96 (by decide) (fun hc => ?_) (fun hc => ?_)
              · rw [if_neg hc] at h
                refine ru_iconst (1 : Int32) ddX11_done_103 rfl ?_
                refine ru_goto 108 ddX11_done_104 (by decide) ?_
                exact ru_iretP ddX11_done_108 rfl h
              · rw [if_pos hc] at h
                refine ru_iload_n ddX11_done_99 rfl ?_
                refine ru_if_eq 107 ddX11_done_100 (by decide) (fun hc => ?_) (fun hc => ?_)
                · rw [if_pos hc] at h
                  refine ru_iconst (0 : Int32) ddX11_done_107 rfl ?_
                  exact ru_iretP ddX11_done_108 rfl h
                · rw [if_neg hc] at h
                  refine ru_iconst (1 : Int32) ddX11_done_103 rfl ?_
                  refine ru_goto 108 ddX11_done_104 (by decide) ?_
                  exact ru_iretP ddX11_done_108 rfl h
theorem wX11_worked_l16 {E : ruE} {d : Nat} (hd : 7 ≤ d) {β : Type} {Q : Option Value → ruA → Prop} {res : β} (x2 : Int32) (x3 : Int32) (x4 : Int32) {k164 : ruA → Option (β)} (hk164 : ∀ (A : ruA), k164 A = some res → ruW E mmX11_worked d Q 164 [some (rurf E 83), none, none, none, none, none, none, none] [] A) : ∀ (n : Nat) (x5 : Int32) (x6 : Int32) (A : ruA), fX11_worked_l16 x2 x3 x4 k164 n x5 x6 A = some res → ruW E mmX11_worked d Q 16 [some (rurf E 83), none, some (.int x2), some (.int x3), some (.int x4), some (.int x5), some (.int x6), none] [] A := by
  intro n
  induction n with
  | zero =>
    intro x5 x6 A h
    exact absurd h (by rw [fX11_worked_l16]; exact fun h => nomatch h)
  | succ n ih =>
    intro x5 x6 A h
    rw [fX11_worked_l16] at h
    refine ru_iload ddX11_worked_16 rfl ?_
    refine ru_aload_n ddX11_worked_18 rfl ?_
    refine ru_getR (r := 84) ddX11_worked_19 flX11_9 rfl rfl ?_
    refine ru_iload ddX11_worked_22 rfl ?_
    obtain ⟨v1, hv, h⟩ := ruB_inv h
    refine ru_iald ddX11_worked_24 rfl hv ?_
    clear hv
    refine ru_icmp_ge 164 ddX11_worked_25 (by decide) (fun hc => ?_) (fun hc => ?_)
    · rw [if_pos hc] at h
      refine ru_wk (L2 := [some (rurf E 83), none, none, none, none, none, none, none]) ⟨rfl, trivial⟩ ?_
      exact hk164 A h
    · rw [if_neg hc] at h
      refine ru_aload_n ddX11_worked_28 rfl ?_
      refine ru_getR (r := 84) ddX11_worked_29 flX11_9 rfl rfl ?_
      refine ru_iload ddX11_worked_32 rfl ?_
      refine ru_iconst (1 : Int32) ddX11_worked_34 rfl ?_
      refine ru_iadd ddX11_worked_35 ?_
      refine ru_iload ddX11_worked_36 rfl ?_
      refine ru_iadd ddX11_worked_38 ?_
      obtain ⟨v2, hv, h⟩ := ruB_inv h
      refine ru_iald ddX11_worked_39 rfl hv ?_
      clear hv
      refine ru_istore ddX11_worked_40 (by decide) rfl rfl ?_
      refine ru_iload ddX11_worked_42 rfl ?_
      refine ru_sipush (10100 : Int32) ddX11_worked_44 rfl ?_
      obtain ⟨v3, A4, hq, h⟩ := ruB2_inv h
      have J : ruW E mmX11_worked d Q 158 [some (rurf E 83), none, some (.int x2), some (.int x3), some (.int x4), some (.int v3), some (.int x6), none] [] A4 := by
          refine ru_iinc (x6 + (1 : Int32)) ddX11_worked_158 (by decide) rfl rfl rfl rfl ?_
          refine ru_goto 16 ddX11_worked_161 (by decide) ?_
          exact ih v3 (x6 + (1 : Int32)) A4 h
      replace h := hq
      clear hq
      refine ru_icmp_ge 88 ddX11_worked_47 (by decide) (fun hc => ?_) (fun hc => ?_)
      · rw [if_pos hc] at h
        refine ru_iload ddX11_worked_88 rfl ?_
        refine ru_sipush (10107 : Int32) ddX11_worked_90 rfl ?_
        refine ru_icmp_ne 125 ddX11_worked_93 (by decide) (fun hc => ?_) (fun hc => ?_)
        · rw [if_neg hc] at h
          refine ru_iinc (x5 + (-1 : Int32)) ddX11_worked_125 (by decide) rfl rfl rfl rfl ?_
          refine ru_aload_n ddX11_worked_128 rfl ?_
          refine ru_getR (r := 93) ddX11_worked_129 flX11_52 rfl rfl ?_
          refine ru_iload ddX11_worked_132 rfl ?_
          refine ru_iconst (1 : Int32) ddX11_worked_134 rfl ?_
          refine ru_isub ddX11_worked_135 ?_
          refine ru_iload ddX11_worked_136 rfl ?_
          refine ru_aload_n ddX11_worked_138 rfl ?_
          refine ru_getR (r := 93) ddX11_worked_139 flX11_52 rfl rfl ?_
          refine ru_iload ddX11_worked_142 rfl ?_
          refine ru_iconst (1 : Int32) ddX11_worked_144 rfl ?_
          refine ru_isub ddX11_worked_145 ?_
          obtain ⟨v5, hv, h⟩ := ruB_inv h
          refine ru_iald ddX11_worked_146 rfl hv ?_
          clear hv
          refine ru_aload_n ddX11_worked_147 rfl ?_
          refine ru_getR (r := 93) ddX11_worked_148 flX11_52 rfl rfl ?_
          refine ru_iload ddX11_worked_151 rfl ?_
          obtain ⟨v6, hv, h⟩ := ruB_inv h
          refine ru_iald ddX11_worked_153 rfl hv ?_
          clear hv
          obtain ⟨v7, hv, h⟩ := ruB_inv h
          refine ru_callSi (as := [.int v2, .int v5, .int v6]) (st := [.int ((x5 + (-1 : Int32)) - (1 : Int32)), rurf E 93]) ddX11_worked_154 csX11_249 (wX11_done 1 (Nat.le_refl _) v2 v5 v6 A hv) rfl (Nat.le_trans (m := 7) (by decide) hd) (Nat.le_of_ble_eq_true rfl) ?_
          clear hv
          obtain ⟨A8, hv, h⟩ := ruB_inv h
          refine ru_iast ddX11_worked_157 rfl hv ?_
          clear hv
          refine ru_wk (L2 := [some (rurf E 83), none, some (.int x2), some (.int x3), some (.int x4), some (.int (x5 + (-1 : Int32))), some (.int x6), none]) ⟨rfl, rfl, rfl, rfl, rfl, rfl, trivial⟩ ?_
          obtain ⟨rfl, rfl⟩ := ruS2 h
          exact J
        · rw [if_pos hc] at h
          refine ru_aload_n ddX11_worked_96 rfl ?_
          refine ru_getR (r := 93) ddX11_worked_97 flX11_52 rfl rfl ?_
          refine ru_iload ddX11_worked_100 rfl ?_
          refine ru_iconst (1 : Int32) ddX11_worked_102 rfl ?_
          refine ru_isub ddX11_worked_103 ?_
          refine ru_aload_n ddX11_worked_104 rfl ?_
          refine ru_getR (r := 93) ddX11_worked_105 flX11_52 rfl rfl ?_
          refine ru_iload ddX11_worked_108 rfl ?_
          refine ru_iconst (1 : Int32) ddX11_worked_110 rfl ?_
          refine ru_isub ddX11_worked_111 ?_
          obtain ⟨v9, hv, h⟩ := ruB_inv h
          refine ru_iald ddX11_worked_112 rfl hv ?_
          clear hv
          obtain ⟨v10, hq, h⟩ := ruB_inv h
          have J : ruW E mmX11_worked d Q 121 [some (rurf E 83), none, some (.int x2), some (.int x3), some (.int x4), some (.int x5), some (.int x6), none] [.int v10, .int (x5 - (1 : Int32)), rurf E 93] A := by
              obtain ⟨A11, hv, h⟩ := ruB_inv h
              refine ru_iast ddX11_worked_121 rfl hv ?_
              clear hv
              refine ru_goto 158 ddX11_worked_122 (by decide) ?_
              refine ru_wk (L2 := [some (rurf E 83), none, some (.int x2), some (.int x3), some (.int x4), some (.int x5), some (.int x6), none]) ⟨rfl, rfl, rfl, rfl, rfl, rfl, trivial⟩ ?_
              obtain ⟨rfl, rfl⟩ := ruS2 h
              exact J
          replace h := hq
          clear hq
          refine ru_if_ne 120 ddX11_worked_113 (by decide) (fun hc => ?_) (fun hc => ?_)
          · rw [if_neg hc] at h
            refine ru_iconst (0 : Int32) ddX11_worked_120 rfl ?_
            refine ru_wk (L2 := [some (rurf E 83), none, some (.int x2), some (.int x3), some (.int x4), some (.int x5), some (.int x6), none]) ⟨rfl, rfl, rfl, rfl, rfl, rfl, trivial⟩ ?_
            obtain rfl := ruS1 h
            exact J
          · rw [if_pos hc] at h
            refine ru_iconst (1 : Int32) ddX11_worked_116 rfl ?_
            refine ru_goto 121 ddX11_worked_117 (by decide) ?_
            refine ru_wk (L2 := [some (rurf E 83), none, some (.int x2), some (.int x3), some (.int x4), some (.int x5), some (.int x6), none]) ⟨rfl, rfl, rfl, rfl, rfl, rfl, trivial⟩ ?_
            obtain rfl := ruS1 h
            exact J
      · rw [if_neg hc] at h
        refine ru_aload_n ddX11_worked_50 rfl ?_
        refine ru_getR (r := 93) ddX11_worked_51 flX11_52 rfl rfl ?_
        refine ru_iload ddX11_worked_54 rfl ?_
        refine ru_iload ddX11_worked_56 rfl ?_
        refine ru_sipush (10000 : Int32) ddX11_worked_58 rfl ?_
        obtain ⟨v12, A13, hq, h⟩ := ruB2_inv h
        have J : ruW E mmX11_worked d Q 81 [some (rurf E 83), none, some (.int x2), some (.int x3), some (.int x4), some (.int x5), some (.int x6), none] [.int v12, .int x5, rurf E 93] A13 := by
            obtain ⟨A16, hv, h⟩ := ruB_inv h
            refine ru_iast ddX11_worked_81 rfl hv ?_
            clear hv
            refine ru_iinc (x5 + (1 : Int32)) ddX11_worked_82 (by decide) rfl rfl rfl rfl ?_
            refine ru_goto 158 ddX11_worked_85 (by decide) ?_
            refine ru_wk (L2 := [some (rurf E 83), none, some (.int x2), some (.int x3), some (.int x4), some (.int (x5 + (1 : Int32))), some (.int x6), none]) ⟨rfl, rfl, rfl, rfl, rfl, rfl, trivial⟩ ?_
            obtain ⟨rfl, rfl⟩ := ruS2 h
            exact J
        replace h := hq
        clear hq
        refine ru_icmp_ge 69 ddX11_worked_61 (by decide) (fun hc => ?_) (fun hc => ?_)
        · rw [if_pos hc] at h
          refine ru_aload_n ddX11_worked_69 rfl ?_
          refine ru_iload_n ddX11_worked_70 rfl ?_
          refine ru_iload_n ddX11_worked_71 rfl ?_
          refine ru_iload ddX11_worked_72 rfl ?_
          refine ru_sipush (10000 : Int32) ddX11_worked_74 rfl ?_
          refine ru_isub ddX11_worked_77 ?_
          obtain ⟨v14, A15, hv, h⟩ := ruB2_inv h
          refine ru_callVi (as := [.int x2, .int x3, .int (v2 - (10000 : Int32))]) (st := [.int x5, rurf E 93]) ddX11_worked_78 cvX11_180 rfl (wX11_measured 6 (Nat.le_refl _) x2 x3 (v2 - (10000 : Int32)) A hv) rfl (Nat.le_trans (m := 7) (by decide) hd) (Nat.le_of_ble_eq_true rfl) ?_
          clear hv
          refine ru_wk (L2 := [some (rurf E 83), none, some (.int x2), some (.int x3), some (.int x4), some (.int x5), some (.int x6), none]) ⟨rfl, rfl, rfl, rfl, rfl, rfl, trivial⟩ ?_
          obtain ⟨rfl, rfl⟩ := ruS2 h
          exact J
        · rw [if_neg hc] at h
          refine ru_iload ddX11_worked_64 rfl ?_
          refine ru_goto 81 ddX11_worked_66 (by decide) ?_
          refine ru_wk (L2 := [some (rurf E 83), none, some (.int x2), some (.int x3), some (.int x4), some (.int x5), some (.int x6), none]) ⟨rfl, rfl, rfl, rfl, rfl, rfl, trivial⟩ ?_
          obtain ⟨rfl, rfl⟩ := ruS2 h
          exact J
theorem wX11_worked {E : ruE} (d : Nat) (hd : 7 ≤ d) (x1 : Int32) (x2 : Int32) (x3 : Int32) (A : ruA) {r : Int32} {B : ruA} (h : fX11_worked x1 x2 x3 A = some (r, B)) : ruC E mmX11_worked d [rurf E 83, .int x1, .int x2, .int x3] A (ruPr r B) := by
  refine ruC.of (L := [some (rurf E 83), some (.int x1), some (.int x2), some (.int x3), none, none, none, none]) (by decide) rfl (Nat.le_of_ble_eq_true rfl) rfl ?_
  unfold fX11_worked at h
  refine ru_sipush (4160 : Int32) ddX11_worked_0 rfl ?_
  refine ru_bipush (104 : Int32) ddX11_worked_3 rfl ?_
  refine ru_iload_n ddX11_worked_5 rfl ?_
  refine ru_imul ddX11_worked_6 ?_
  refine ru_iadd ddX11_worked_7 ?_
  refine ru_istore ddX11_worked_8 (by decide) rfl rfl ?_
  refine ru_iconst (0 : Int32) ddX11_worked_10 rfl ?_
  refine ru_istore ddX11_worked_11 (by decide) rfl rfl ?_
  refine ru_iconst (0 : Int32) ddX11_worked_13 rfl ?_
  refine ru_istore ddX11_worked_14 (by decide) rfl rfl ?_
  refine ru_wk (L2 := [some (rurf E 83), none, some (.int x2), some (.int x3), some (.int ((4160 : Int32) + ((104 : Int32) * x1))), some (.int (0 : Int32)), some (.int (0 : Int32)), none]) ⟨rfl, rfl, rfl, rfl, rfl, rfl, trivial⟩ ?_
  exact wX11_worked_l16 hd x2 x3 ((4160 : Int32) + ((104 : Int32) * x1)) (fun A17 h => by
        refine ru_aload_n ddX11_worked_164 rfl ?_
        refine ru_getR (r := 93) ddX11_worked_165 flX11_52 rfl rfl ?_
        refine ru_iconst (0 : Int32) ddX11_worked_168 rfl ?_
        obtain ⟨v18, hv, h⟩ := ruB_inv h
        refine ru_iald ddX11_worked_169 rfl hv ?_
        clear hv
        exact ru_iretW ddX11_worked_170 rfl h) ruF (0 : Int32) (0 : Int32) A h
