theorem wX11_says {E : ruE} (d : Nat) (hd : 8 ≤ d) (x1 : Int32) (x2 : Int32) (x3 : Int32) (A : ruA) {r : Int32} {B : ruA} (h : fX11_says x1 x2 x3 A = some (r, B)) : ruC E mmX11_says d [rurf E 83, .int x1, .int x2, .int x3] A (ruPr r B) := by
  refine ruC.of (L := [some (rurf E 83), some (.int x1), some (.int x2), some (.int x3)]) (by decide) rfl (Nat.le_of_ble_eq_true rfl) rfl ?_
  unfold fX11_says at h
  refine ru_aload_n ddX11_says_0 rfl ?_
  refine ru_iload_n ddX11_says_1 rfl ?_
  refine ru_iconst (3 : Int32) ddX11_says_2 rfl ?_
  obtain ⟨v1, hv, h⟩ := ruB_inv h
  refine ru_callVi (as := [.int x1, .int (3 : Int32)]) (st := []) ddX11_says_3 cvX11_87 rfl (wX11_is 2 (Nat.le_refl _) x1 (3 : Int32) A hv) rfl (Nat.le_trans (m := 8) (by decide) hd) (Nat.le_of_ble_eq_true rfl) ?_
  clear hv
  refine ru_if_eq 25 ddX11_says_6 (by decide) (fun hc => ?_) (fun hc => ?_)
  · rw [if_pos hc] at h
    refine ru_aload_n ddX11_says_25 rfl ?_
    refine ru_ldc (v := (-1000001 : Int32)) ddX11_says_26 ckX11_65 ?_
    obtain ⟨v2, A3, hv, h⟩ := ruB2_inv h
    refine ru_callVi (as := [.int (-1000001 : Int32)]) (st := []) ddX11_says_28 cvX11_82 rfl (wX11_finding 1 (Nat.le_refl _) (-1000001 : Int32) A hv) rfl (Nat.le_trans (m := 8) (by decide) hd) (Nat.le_of_ble_eq_true rfl) ?_
    clear hv
    exact ru_iretW ddX11_says_31 rfl h
  · rw [if_neg hc] at h
    refine ru_aload_n ddX11_says_9 rfl ?_
    refine ru_iload_n ddX11_says_10 rfl ?_
    refine ru_iconst (1 : Int32) ddX11_says_11 rfl ?_
    obtain ⟨v4, hv, h⟩ := ruB_inv h
    refine ru_callVi (as := [.int x2, .int (1 : Int32)]) (st := []) ddX11_says_12 cvX11_87 rfl (wX11_is 2 (Nat.le_refl _) x2 (1 : Int32) A hv) rfl (Nat.le_trans (m := 8) (by decide) hd) (Nat.le_of_ble_eq_true rfl) ?_
    clear hv
    refine ru_if_eq 25 ddX11_says_15 (by decide) (fun hc => ?_) (fun hc => ?_)
    · rw [if_pos hc] at h
      refine ru_aload_n ddX11_says_25 rfl ?_
      refine ru_ldc (v := (-1000001 : Int32)) ddX11_says_26 ckX11_65 ?_
      obtain ⟨v5, A6, hv, h⟩ := ruB2_inv h
      refine ru_callVi (as := [.int (-1000001 : Int32)]) (st := []) ddX11_says_28 cvX11_82 rfl (wX11_finding 1 (Nat.le_refl _) (-1000001 : Int32) A hv) rfl (Nat.le_trans (m := 8) (by decide) hd) (Nat.le_of_ble_eq_true rfl) ?_
      clear hv
      exact ru_iretW ddX11_says_31 rfl h
    · rw [if_neg hc] at h
      refine ru_iload_n ddX11_says_18 rfl ?_
      obtain ⟨v7, hv, h⟩ := ruB_inv h
      refine ru_callSi (as := [.int x3]) (st := []) ddX11_says_19 csX11_128 (wX11_isYear 2 (Nat.le_refl _) x3 A hv) rfl (Nat.le_trans (m := 8) (by decide) hd) (Nat.le_of_ble_eq_true rfl) ?_
      clear hv
      refine ru_if_ne 32 ddX11_says_22 (by decide) (fun hc => ?_) (fun hc => ?_)
      · rw [if_neg hc] at h
        refine ru_aload_n ddX11_says_32 rfl ?_
        refine ru_iload_n ddX11_says_33 rfl ?_
        refine ru_iload_n ddX11_says_34 rfl ?_
        obtain ⟨v8, hv, h⟩ := ruB_inv h
        refine ru_callVi (as := [.int x2, .int x3]) (st := []) ddX11_says_35 cvX11_174 rfl (wX11_sheetsOf 4 (Nat.le_refl _) x2 x3 A hv) rfl (Nat.le_trans (m := 8) (by decide) hd) (Nat.le_of_ble_eq_true rfl) ?_
        clear hv
        refine ru_if_ne 50 ddX11_says_38 (by decide) (fun hc => ?_) (fun hc => ?_)
        · rw [if_neg hc] at h
          refine ru_aload_n ddX11_says_50 rfl ?_
          refine ru_iload_n ddX11_says_51 rfl ?_
          refine ru_iload_n ddX11_says_52 rfl ?_
          refine ru_iload_n ddX11_says_53 rfl ?_
          obtain ⟨v9, A10, hv, h⟩ := ruB2_inv h
          refine ru_callVi (as := [.int x1, .int x2, .int x3]) (st := []) ddX11_says_54 cvX11_252 rfl (wX11_worked 7 (Nat.le_refl _) x1 x2 x3 A hv) rfl (Nat.le_trans (m := 8) (by decide) hd) (Nat.le_of_ble_eq_true rfl) ?_
          clear hv
          exact ru_iretW ddX11_says_57 rfl h
        · rw [if_pos hc] at h
          refine ru_aload_n ddX11_says_41 rfl ?_
          refine ru_ldc (v := (-1000004 : Int32)) ddX11_says_42 ckX11_127 ?_
          obtain ⟨v11, A12, hv, h⟩ := ruB2_inv h
          refine ru_callVi (as := [.int (-1000004 : Int32)]) (st := []) ddX11_says_44 cvX11_82 rfl (wX11_finding 1 (Nat.le_refl _) (-1000004 : Int32) A hv) rfl (Nat.le_trans (m := 8) (by decide) hd) (Nat.le_of_ble_eq_true rfl) ?_
          clear hv
          refine ru_goto 57 ddX11_says_47 (by decide) ?_
          exact ru_iretW ddX11_says_57 rfl h
      · rw [if_pos hc] at h
        refine ru_aload_n ddX11_says_25 rfl ?_
        refine ru_ldc (v := (-1000001 : Int32)) ddX11_says_26 ckX11_65 ?_
        obtain ⟨v13, A14, hv, h⟩ := ruB2_inv h
        refine ru_callVi (as := [.int (-1000001 : Int32)]) (st := []) ddX11_says_28 cvX11_82 rfl (wX11_finding 1 (Nat.le_refl _) (-1000001 : Int32) A hv) rfl (Nat.le_trans (m := 8) (by decide) hd) (Nat.le_of_ble_eq_true rfl) ?_
        clear hv
        exact ru_iretW ddX11_says_31 rfl h
theorem wX11_judges_l38 {E : ruE} {d : Nat} (hd : 8 ≤ d) {β : Type} {Q : Option Value → ruA → Prop} {res : β} (x1 : Int32) (x2 : Int32) (x3 : Int32) {k155 : Int32 → ruA → Option (β)} (hk155 : ∀ (x4 : Int32) (A : ruA), k155 x4 A = some res → ruW E mmX11_judges d Q 155 [none, none, none, none, some (.int x4), none, none, none] [] A) : ∀ (n : Nat) (x4 : Int32) (x5 : Int32) (A : ruA), fX11_judges_l38 x1 x2 x3 k155 n x4 x5 A = some res → ruW E mmX11_judges d Q 38 [some (rurf E 83), some (.int x1), some (.int x2), some (.int x3), some (.int x4), some (.int x5), none, none] [] A := by
  intro n
  induction n with
  | zero =>
    intro x4 x5 A h
    exact absurd h (by rw [fX11_judges_l38]; exact fun h => nomatch h)
  | succ n ih =>
    intro x4 x5 A h
    rw [fX11_judges_l38] at h
    refine ru_iload ddX11_judges_38 rfl ?_
    refine ru_aload_n ddX11_judges_40 rfl ?_
    refine ru_getR (r := 84) ddX11_judges_41 flX11_9 rfl rfl ?_
    refine ru_iconst (1 : Int32) ddX11_judges_44 rfl ?_
    obtain ⟨v8, hv, h⟩ := ruB_inv h
    refine ru_iald ddX11_judges_45 rfl hv ?_
    clear hv
    refine ru_icmp_ge 155 ddX11_judges_46 (by decide) (fun hc => ?_) (fun hc => ?_)
    · rw [if_pos hc] at h
      refine ru_wk (L2 := [none, none, none, none, some (.int x4), none, none, none]) ⟨rfl, trivial⟩ ?_
      exact hk155 x4 A h
    · rw [if_neg hc] at h
      refine ru_aload_n ddX11_judges_49 rfl ?_
      refine ru_iload ddX11_judges_50 rfl ?_
      refine ru_iload_n ddX11_judges_52 rfl ?_
      obtain ⟨v9, hv, h⟩ := ruB_inv h
      refine ru_callVi (as := [.int x5, .int x2]) (st := []) ddX11_judges_53 cvX11_174 rfl (wX11_sheetsOf 4 (Nat.le_refl _) x5 x2 A hv) rfl (Nat.le_trans (m := 8) (by decide) hd) (Nat.le_of_ble_eq_true rfl) ?_
      clear hv
      obtain ⟨v10, A11, hq, h⟩ := ruB2_inv h
      have J : ruW E mmX11_judges d Q 149 [some (rurf E 83), some (.int x1), some (.int x2), some (.int x3), some (.int v10), some (.int x5), none, none] [] A11 := by
          refine ru_iinc (x5 + (1 : Int32)) ddX11_judges_149 (by decide) rfl rfl rfl rfl ?_
          refine ru_goto 38 ddX11_judges_152 (by decide) ?_
          exact ih v10 (x5 + (1 : Int32)) A11 h
      replace h := hq
      clear hq
      refine ru_if_le 149 ddX11_judges_56 (by decide) (fun hc => ?_) (fun hc => ?_)
      · rw [if_pos hc] at h
        refine ru_wk (L2 := [some (rurf E 83), some (.int x1), some (.int x2), some (.int x3), some (.int x4), some (.int x5), none, none]) ⟨rfl, rfl, rfl, rfl, rfl, rfl, trivial⟩ ?_
        obtain ⟨rfl, rfl⟩ := ruS2 h
        exact J
      · rw [if_neg hc] at h
        refine ru_aload_n ddX11_judges_59 rfl ?_
        refine ru_iload_n ddX11_judges_60 rfl ?_
        refine ru_iload ddX11_judges_61 rfl ?_
        refine ru_iload_n ddX11_judges_63 rfl ?_
        obtain ⟨v12, A13, hv, h⟩ := ruB2_inv h
        refine ru_callVi (as := [.int x1, .int x5, .int x2]) (st := []) ddX11_judges_64 cvX11_252 rfl (wX11_worked 7 (Nat.le_refl _) x1 x5 x2 A hv) rfl (Nat.le_trans (m := 8) (by decide) hd) (Nat.le_of_ble_eq_true rfl) ?_
        clear hv
        obtain ⟨v14, hq, h⟩ := ruB_inv h
        have J : ruW E mmX11_judges d Q 75 [some (rurf E 83), some (.int x1), some (.int x2), some (.int x3), some (.int x4), some (.int x5), none, none] [.int v14] A13 := by
            refine ru_istore ddX11_judges_75 (by decide) rfl rfl ?_
            refine ru_aload_n ddX11_judges_77 rfl ?_
            refine ru_iload ddX11_judges_78 rfl ?_
            refine ru_iload_n ddX11_judges_80 rfl ?_
            refine ru_bipush (6 : Int32) ddX11_judges_81 rfl ?_
            obtain ⟨v15, A16, hv, h⟩ := ruB2_inv h
            refine ru_callVi (as := [.int x5, .int x2, .int (6 : Int32)]) (st := []) ddX11_judges_83 cvX11_180 rfl (wX11_measured 6 (Nat.le_refl _) x5 x2 (6 : Int32) A13 hv) rfl (Nat.le_trans (m := 8) (by decide) hd) (Nat.le_of_ble_eq_true rfl) ?_
            clear hv
            obtain ⟨v17, hq, h⟩ := ruB_inv h
            have J : ruW E mmX11_judges d Q 94 [some (rurf E 83), some (.int x1), some (.int x2), some (.int x3), some (.int x4), some (.int x5), some (.int v14), none] [.int v17] A16 := by
                refine ru_istore ddX11_judges_94 (by decide) rfl rfl ?_
                refine ru_iload ddX11_judges_96 rfl ?_
                refine ru_iload_n ddX11_judges_98 rfl ?_
                obtain ⟨v18, hq, h⟩ := ruB_inv h
                have J : ruW E mmX11_judges d Q 146 [some (rurf E 83), some (.int x1), some (.int x2), some (.int x3), none, some (.int x5), none, none] [.int v18, .int x4] A16 := by
                    refine ru_ior ddX11_judges_146 ?_
                    refine ru_istore ddX11_judges_147 (by decide) rfl rfl ?_
                    refine ru_wk (L2 := [some (rurf E 83), some (.int x1), some (.int x2), some (.int x3), some (.int (x4 ||| v18)), some (.int x5), none, none]) ⟨rfl, rfl, rfl, rfl, rfl, rfl, trivial⟩ ?_
                    obtain ⟨rfl, rfl⟩ := ruS2 h
                    exact J
                replace h := hq
                clear hq
                refine ru_if_ne 110 ddX11_judges_99 (by decide) (fun hc => ?_) (fun hc => ?_)
                · rw [if_neg hc] at h
                  refine ru_iload_n ddX11_judges_110 rfl ?_
                  refine ru_iconst (1 : Int32) ddX11_judges_111 rfl ?_
                  refine ru_icmp_ne 128 ddX11_judges_112 (by decide) (fun hc => ?_) (fun hc => ?_)
                  · rw [if_neg hc] at h
                    refine ru_iload ddX11_judges_128 rfl ?_
                    refine ru_if_ne 145 ddX11_judges_130 (by decide) (fun hc => ?_) (fun hc => ?_)
                    · rw [if_neg hc] at h
                      refine ru_iconst (0 : Int32) ddX11_judges_145 rfl ?_
                      refine ru_wk (L2 := [some (rurf E 83), some (.int x1), some (.int x2), some (.int x3), none, some (.int x5), none, none]) ⟨rfl, rfl, rfl, rfl, rfl, trivial⟩ ?_
                      obtain rfl := ruS1 h
                      exact J
                    · rw [if_pos hc] at h
                      refine ru_iload ddX11_judges_133 rfl ?_
                      refine ru_if_eq 145 ddX11_judges_135 (by decide) (fun hc => ?_) (fun hc => ?_)
                      · rw [if_pos hc] at h
                        refine ru_iconst (0 : Int32) ddX11_judges_145 rfl ?_
                        refine ru_wk (L2 := [some (rurf E 83), some (.int x1), some (.int x2), some (.int x3), none, some (.int x5), none, none]) ⟨rfl, rfl, rfl, rfl, rfl, trivial⟩ ?_
                        obtain rfl := ruS1 h
                        exact J
                      · rw [if_neg hc] at h
                        refine ru_iconst (1 : Int32) ddX11_judges_138 rfl ?_
                        refine ru_iload ddX11_judges_139 rfl ?_
                        refine ru_ishl ddX11_judges_141 ?_
                        refine ru_goto 146 ddX11_judges_142 (by decide) ?_
                        refine ru_wk (L2 := [some (rurf E 83), some (.int x1), some (.int x2), some (.int x3), none, some (.int x5), none, none]) ⟨rfl, rfl, rfl, rfl, rfl, trivial⟩ ?_
                        obtain rfl := ruS1 h
                        exact J
                  · rw [if_pos hc] at h
                    refine ru_iload ddX11_judges_115 rfl ?_
                    refine ru_if_eq 145 ddX11_judges_117 (by decide) (fun hc => ?_) (fun hc => ?_)
                    · rw [if_pos hc] at h
                      refine ru_iconst (0 : Int32) ddX11_judges_145 rfl ?_
                      refine ru_wk (L2 := [some (rurf E 83), some (.int x1), some (.int x2), some (.int x3), none, some (.int x5), none, none]) ⟨rfl, rfl, rfl, rfl, rfl, trivial⟩ ?_
                      obtain rfl := ruS1 h
                      exact J
                    · rw [if_neg hc] at h
                      refine ru_iload ddX11_judges_120 rfl ?_
                      refine ru_if_ne 145 ddX11_judges_122 (by decide) (fun hc => ?_) (fun hc => ?_)
                      · rw [if_neg hc] at h
                        refine ru_iconst (0 : Int32) ddX11_judges_145 rfl ?_
                        refine ru_wk (L2 := [some (rurf E 83), some (.int x1), some (.int x2), some (.int x3), none, some (.int x5), none, none]) ⟨rfl, rfl, rfl, rfl, rfl, trivial⟩ ?_
                        obtain rfl := ruS1 h
                        exact J
                      · rw [if_pos hc] at h
                        refine ru_goto 138 ddX11_judges_125 (by decide) ?_
                        refine ru_iconst (1 : Int32) ddX11_judges_138 rfl ?_
                        refine ru_iload ddX11_judges_139 rfl ?_
                        refine ru_ishl ddX11_judges_141 ?_
                        refine ru_goto 146 ddX11_judges_142 (by decide) ?_
                        refine ru_wk (L2 := [some (rurf E 83), some (.int x1), some (.int x2), some (.int x3), none, some (.int x5), none, none]) ⟨rfl, rfl, rfl, rfl, rfl, trivial⟩ ?_
                        obtain rfl := ruS1 h
                        exact J
                · rw [if_pos hc] at h
                  refine ru_iload ddX11_judges_102 rfl ?_
                  refine ru_if_eq 145 ddX11_judges_104 (by decide) (fun hc => ?_) (fun hc => ?_)
                  · rw [if_pos hc] at h
                    refine ru_iconst (0 : Int32) ddX11_judges_145 rfl ?_
                    refine ru_wk (L2 := [some (rurf E 83), some (.int x1), some (.int x2), some (.int x3), none, some (.int x5), none, none]) ⟨rfl, rfl, rfl, rfl, rfl, trivial⟩ ?_
                    obtain rfl := ruS1 h
                    exact J
                  · rw [if_neg hc] at h
                    refine ru_goto 138 ddX11_judges_107 (by decide) ?_
                    refine ru_iconst (1 : Int32) ddX11_judges_138 rfl ?_
                    refine ru_iload ddX11_judges_139 rfl ?_
                    refine ru_ishl ddX11_judges_141 ?_
                    refine ru_goto 146 ddX11_judges_142 (by decide) ?_
                    refine ru_wk (L2 := [some (rurf E 83), some (.int x1), some (.int x2), some (.int x3), none, some (.int x5), none, none]) ⟨rfl, rfl, rfl, rfl, rfl, trivial⟩ ?_
                    obtain rfl := ruS1 h
                    exact J
            replace h := hq
            clear hq
            refine ru_if_le 93 ddX11_judges_86 (by decide) (fun hc => ?_) (fun hc => ?_)
            · rw [if_pos hc] at h
              refine ru_iconst (0 : Int32) ddX11_judges_93 rfl ?_
              obtain rfl := ruS1 h
              exact J
            · rw [if_neg hc] at h
              refine ru_iconst (1 : Int32) ddX11_judges_89 rfl ?_
              refine ru_goto 94 ddX11_judges_90 (by decide) ?_
              obtain rfl := ruS1 h
              exact J
        replace h := hq
        clear hq
        refine ru_if_eq 74 ddX11_judges_67 (by decide) (fun hc => ?_) (fun hc => ?_)
        · rw [if_pos hc] at h
          refine ru_iconst (0 : Int32) ddX11_judges_74 rfl ?_
          obtain rfl := ruS1 h
          exact J
        · rw [if_neg hc] at h
          refine ru_iconst (1 : Int32) ddX11_judges_70 rfl ?_
          refine ru_goto 75 ddX11_judges_71 (by decide) ?_
          obtain rfl := ruS1 h
          exact J
theorem wX11_judges {E : ruE} (d : Nat) (hd : 8 ≤ d) (x1 : Int32) (x2 : Int32) (x3 : Int32) (A : ruA) {r : Int32} {B : ruA} (h : fX11_judges x1 x2 x3 A = some (r, B)) : ruC E mmX11_judges d [rurf E 83, .int x1, .int x2, .int x3] A (ruPr r B) := by
  refine ruC.of (L := [some (rurf E 83), some (.int x1), some (.int x2), some (.int x3), none, none, none, none]) (by decide) rfl (Nat.le_of_ble_eq_true rfl) rfl ?_
  unfold fX11_judges at h
  refine ru_aload_n ddX11_judges_0 rfl ?_
  refine ru_iload_n ddX11_judges_1 rfl ?_
  refine ru_iconst (3 : Int32) ddX11_judges_2 rfl ?_
  obtain ⟨v1, hv, h⟩ := ruB_inv h
  refine ru_callVi (as := [.int x1, .int (3 : Int32)]) (st := []) ddX11_judges_3 cvX11_87 rfl (wX11_is 2 (Nat.le_refl _) x1 (3 : Int32) A hv) rfl (Nat.le_trans (m := 8) (by decide) hd) (Nat.le_of_ble_eq_true rfl) ?_
  clear hv
  refine ru_if_eq 25 ddX11_judges_6 (by decide) (fun hc => ?_) (fun hc => ?_)
  · rw [if_pos hc] at h
    refine ru_aload_n ddX11_judges_25 rfl ?_
    refine ru_ldc (v := (-1000001 : Int32)) ddX11_judges_26 ckX11_65 ?_
    obtain ⟨v2, A3, hv, h⟩ := ruB2_inv h
    refine ru_callVi (as := [.int (-1000001 : Int32)]) (st := []) ddX11_judges_28 cvX11_82 rfl (wX11_finding 1 (Nat.le_refl _) (-1000001 : Int32) A hv) rfl (Nat.le_trans (m := 8) (by decide) hd) (Nat.le_of_ble_eq_true rfl) ?_
    clear hv
    exact ru_iretW ddX11_judges_31 rfl h
  · rw [if_neg hc] at h
    refine ru_iload_n ddX11_judges_9 rfl ?_
    obtain ⟨v4, hv, h⟩ := ruB_inv h
    refine ru_callSi (as := [.int x2]) (st := []) ddX11_judges_10 csX11_128 (wX11_isYear 2 (Nat.le_refl _) x2 A hv) rfl (Nat.le_trans (m := 8) (by decide) hd) (Nat.le_of_ble_eq_true rfl) ?_
    clear hv
    refine ru_if_eq 25 ddX11_judges_13 (by decide) (fun hc => ?_) (fun hc => ?_)
    · rw [if_pos hc] at h
      refine ru_aload_n ddX11_judges_25 rfl ?_
      refine ru_ldc (v := (-1000001 : Int32)) ddX11_judges_26 ckX11_65 ?_
      obtain ⟨v5, A6, hv, h⟩ := ruB2_inv h
      refine ru_callVi (as := [.int (-1000001 : Int32)]) (st := []) ddX11_judges_28 cvX11_82 rfl (wX11_finding 1 (Nat.le_refl _) (-1000001 : Int32) A hv) rfl (Nat.le_trans (m := 8) (by decide) hd) (Nat.le_of_ble_eq_true rfl) ?_
      clear hv
      exact ru_iretW ddX11_judges_31 rfl h
    · rw [if_neg hc] at h
      refine ru_iload_n ddX11_judges_16 rfl ?_
      refine ru_iconst (0 : Int32) ddX11_judges_17 rfl ?_
      refine ru_iconst (2 : Int32) ddX11_judges_18 rfl ?_
      obtain ⟨v7, hv, h⟩ := ruB_inv h
      refine ru_callSi (as := [.int x3, .int (0 : Int32), .int (2 : Int32)]) (st := []) ddX11_judges_19 csX11_66 (wX11_within 1 (Nat.le_refl _) x3 (0 : Int32) (2 : Int32) A hv) rfl (Nat.le_trans (m := 8) (by decide) hd) (Nat.le_of_ble_eq_true rfl) ?_
      clear hv
      refine ru_if_ne 32 ddX11_judges_22 (by decide) (fun hc => ?_) (fun hc => ?_)
      · rw [if_neg hc] at h
        refine ru_iconst (0 : Int32) ddX11_judges_32 rfl ?_
        refine ru_istore ddX11_judges_33 (by decide) rfl rfl ?_
        refine ru_iconst (0 : Int32) ddX11_judges_35 rfl ?_
        refine ru_istore ddX11_judges_36 (by decide) rfl rfl ?_
        exact wX11_judges_l38 hd x1 x2 x3 (fun v19 A20 h => by
              refine ru_iload ddX11_judges_155 rfl ?_
              exact ru_iretW ddX11_judges_157 rfl h) ruF (0 : Int32) (0 : Int32) A h
      · rw [if_pos hc] at h
        refine ru_aload_n ddX11_judges_25 rfl ?_
        refine ru_ldc (v := (-1000001 : Int32)) ddX11_judges_26 ckX11_65 ?_
        obtain ⟨v21, A22, hv, h⟩ := ruB2_inv h
        refine ru_callVi (as := [.int (-1000001 : Int32)]) (st := []) ddX11_judges_28 cvX11_82 rfl (wX11_finding 1 (Nat.le_refl _) (-1000001 : Int32) A hv) rfl (Nat.le_trans (m := 8) (by decide) hd) (Nat.le_of_ble_eq_true rfl) ?_
        clear hv
        exact ru_iretW ddX11_judges_31 rfl h
theorem wX11_line_l38 {E : ruE} {d : Nat} (hd : 7 ≤ d) {β : Type} {Q : Option Value → ruA → Prop} {res : β} (x1 : Int32) (x2 : Int32) (x3 : Int32) {k107 : Int32 → ruA → Option (β)} (hk107 : ∀ (x4 : Int32) (A : ruA), k107 x4 A = some res → ruW E mmX11_line d Q 107 [some (rurf E 83), none, none, some (.int x3), some (.int x4), none, none, none, none, none, none, none] [] A) : ∀ (n : Nat) (x4 : Int32) (x5 : Int32) (A : ruA), fX11_line_l38 x1 x2 x3 k107 n x4 x5 A = some res → ruW E mmX11_line d Q 38 [some (rurf E 83), some (.int x1), some (.int x2), some (.int x3), some (.int x4), some (.int x5), none, none, none, none, none, none] [] A := by
  intro n
  induction n with
  | zero =>
    intro x4 x5 A h
    exact absurd h (by rw [fX11_line_l38]; exact fun h => nomatch h)
  | succ n ih =>
    intro x4 x5 A h
    rw [fX11_line_l38] at h
    refine ru_iload ddX11_line_38 rfl ?_
    refine ru_aload_n ddX11_line_40 rfl ?_
    refine ru_getR (r := 84) ddX11_line_41 flX11_9 rfl rfl ?_
    refine ru_iconst (1 : Int32) ddX11_line_44 rfl ?_
    obtain ⟨v8, hv, h⟩ := ruB_inv h
    refine ru_iald ddX11_line_45 rfl hv ?_
    clear hv
    refine ru_icmp_ge 107 ddX11_line_46 (by decide) (fun hc => ?_) (fun hc => ?_)
    · rw [if_pos hc] at h
      refine ru_wk (L2 := [some (rurf E 83), none, none, some (.int x3), some (.int x4), none, none, none, none, none, none, none]) ⟨rfl, rfl, rfl, trivial⟩ ?_
      exact hk107 x4 A h
    · rw [if_neg hc] at h
      refine ru_aload_n ddX11_line_49 rfl ?_
      refine ru_iload ddX11_line_50 rfl ?_
      refine ru_iload_n ddX11_line_52 rfl ?_
      obtain ⟨v9, hv, h⟩ := ruB_inv h
      refine ru_callVi (as := [.int x5, .int x2]) (st := []) ddX11_line_53 cvX11_174 rfl (wX11_sheetsOf 4 (Nat.le_refl _) x5 x2 A hv) rfl (Nat.le_trans (m := 7) (by decide) hd) (Nat.le_of_ble_eq_true rfl) ?_
      clear hv
      obtain ⟨v10, A11, hq, h⟩ := ruB2_inv h
      have J : ruW E mmX11_line d Q 101 [some (rurf E 83), some (.int x1), some (.int x2), some (.int x3), some (.int v10), some (.int x5), none, none, none, none, none, none] [] A11 := by
          refine ru_iinc (x5 + (1 : Int32)) ddX11_line_101 (by decide) rfl rfl rfl rfl ?_
          refine ru_goto 38 ddX11_line_104 (by decide) ?_
          exact ih v10 (x5 + (1 : Int32)) A11 h
      replace h := hq
      clear hq
      refine ru_if_le 101 ddX11_line_56 (by decide) (fun hc => ?_) (fun hc => ?_)
      · rw [if_pos hc] at h
        refine ru_wk (L2 := [some (rurf E 83), some (.int x1), some (.int x2), some (.int x3), some (.int x4), some (.int x5), none, none, none, none, none, none]) ⟨rfl, rfl, rfl, rfl, rfl, rfl, trivial⟩ ?_
        obtain ⟨rfl, rfl⟩ := ruS2 h
        exact J
      · rw [if_neg hc] at h
        refine ru_aload_n ddX11_line_59 rfl ?_
        refine ru_getR (r := 94) ddX11_line_60 flX11_55 rfl rfl ?_
        refine ru_iload ddX11_line_63 rfl ?_
        refine ru_aload_n ddX11_line_65 rfl ?_
        refine ru_iload ddX11_line_66 rfl ?_
        refine ru_iload_n ddX11_line_68 rfl ?_
        refine ru_iload_n ddX11_line_69 rfl ?_
        obtain ⟨v12, A13, hv, h⟩ := ruB2_inv h
        refine ru_callVi (as := [.int x5, .int x2, .int x1]) (st := [.int x4, rurf E 94]) ddX11_line_70 cvX11_180 rfl (wX11_measured 6 (Nat.le_refl _) x5 x2 x1 A hv) rfl (Nat.le_trans (m := 7) (by decide) hd) (Nat.le_of_ble_eq_true rfl) ?_
        clear hv
        obtain ⟨A14, hv, h⟩ := ruB_inv h
        refine ru_iast ddX11_line_73 rfl hv ?_
        clear hv
        refine ru_aload_n ddX11_line_74 rfl ?_
        refine ru_getR (r := 95) ddX11_line_75 flX11_58 rfl rfl ?_
        refine ru_iload ddX11_line_78 rfl ?_
        refine ru_aload_n ddX11_line_80 rfl ?_
        refine ru_iload ddX11_line_81 rfl ?_
        refine ru_iload_n ddX11_line_83 rfl ?_
        refine ru_bipush (6 : Int32) ddX11_line_84 rfl ?_
        obtain ⟨v15, A16, hv, h⟩ := ruB2_inv h
        refine ru_callVi (as := [.int x5, .int x2, .int (6 : Int32)]) (st := [.int x4, rurf E 95]) ddX11_line_86 cvX11_180 rfl (wX11_measured 6 (Nat.le_refl _) x5 x2 (6 : Int32) A14 hv) rfl (Nat.le_trans (m := 7) (by decide) hd) (Nat.le_of_ble_eq_true rfl) ?_
        clear hv
        obtain ⟨v17, hq, h⟩ := ruB_inv h
        have J : ruW E mmX11_line d Q 97 [some (rurf E 83), some (.int x1), some (.int x2), some (.int x3), some (.int x4), some (.int x5), none, none, none, none, none, none] [.int v17, .int x4, rurf E 95] A16 := by
            obtain ⟨A18, hv, h⟩ := ruB_inv h
            refine ru_zast ddX11_line_97 rfl hv ?_
            clear hv
            refine ru_iinc (x4 + (1 : Int32)) ddX11_line_98 (by decide) rfl rfl rfl rfl ?_
            refine ru_wk (L2 := [some (rurf E 83), some (.int x1), some (.int x2), some (.int x3), some (.int (x4 + (1 : Int32))), some (.int x5), none, none, none, none, none, none]) ⟨rfl, rfl, rfl, rfl, rfl, rfl, trivial⟩ ?_
            obtain ⟨rfl, rfl⟩ := ruS2 h
            exact J
        replace h := hq
        clear hq
        refine ru_if_le 96 ddX11_line_89 (by decide) (fun hc => ?_) (fun hc => ?_)
        · rw [if_pos hc] at h
          refine ru_iconst (0 : Int32) ddX11_line_96 rfl ?_
          obtain rfl := ruS1 h
          exact J
        · rw [if_neg hc] at h
          refine ru_iconst (1 : Int32) ddX11_line_92 rfl ?_
          refine ru_goto 97 ddX11_line_93 (by decide) ?_
          obtain rfl := ruS1 h
          exact J
theorem wX11_line_l148 {E : ruE} {d : Nat} (hd : 7 ≤ d) {β : Type} {Q : Option Value → ruA → Prop} {res : β} (x3 : Int32) (x4 : Int32) (x5 : Int32) (x6 : Int32) (x7 : Int32) (x8 : Int32) (A : ruA) {k225 : Int32 → Int32 → Option (β)} (hk225 : ∀ (x9 : Int32) (x10 : Int32), k225 x9 x10 = some res → ruW E mmX11_line d Q 225 [some (rurf E 83), none, none, some (.int x3), some (.int x4), some (.int x5), some (.int x6), some (.int x7), some (.int x8), some (.int x9), some (.int x10), none] [] A) : ∀ (n : Nat) (x9 : Int32) (x10 : Int32) (x11 : Int32), fX11_line_l148 x3 x4 x5 x6 x7 x8 A k225 n x9 x10 x11 = some res → ruW E mmX11_line d Q 148 [some (rurf E 83), none, none, some (.int x3), some (.int x4), some (.int x5), some (.int x6), some (.int x7), some (.int x8), some (.int x9), some (.int x10), some (.int x11)] [] A := by
  intro n
  induction n with
  | zero =>
    intro x9 x10 x11 h
    exact absurd h (by rw [fX11_line_l148]; exact fun h => nomatch h)
  | succ n ih =>
    intro x9 x10 x11 h
    rw [fX11_line_l148] at h
    refine ru_iload ddX11_line_148 rfl ?_
    refine ru_iload ddX11_line_150 rfl ?_
    refine ru_icmp_ge 225 ddX11_line_152 (by decide) (fun hc => ?_) (fun hc => ?_)
    · rw [if_pos hc] at h
      refine ru_wk (L2 := [some (rurf E 83), none, none, some (.int x3), some (.int x4), some (.int x5), some (.int x6), some (.int x7), some (.int x8), some (.int x9), some (.int x10), none]) ⟨rfl, rfl, rfl, rfl, rfl, rfl, rfl, rfl, rfl, trivial⟩ ?_
      exact hk225 x9 x10 h
    · rw [if_neg hc] at h
      refine ru_iload ddX11_line_155 rfl ?_
      refine ru_aload_n ddX11_line_157 rfl ?_
      refine ru_getR (r := 94) ddX11_line_158 flX11_55 rfl rfl ?_
      refine ru_iload ddX11_line_161 rfl ?_
      obtain ⟨v21, hv, h⟩ := ruB_inv h
      refine ru_iald ddX11_line_163 rfl hv ?_
      clear hv
      refine ru_iload ddX11_line_164 rfl ?_
      obtain ⟨v22, hq, h⟩ := ruB_inv h
      have J : ruW E mmX11_line d Q 184 [some (rurf E 83), none, none, some (.int x3), some (.int x4), some (.int x5), some (.int x6), some (.int x7), some (.int x8), none, some (.int x10), some (.int x11)] [.int v22, .int x9] A := by
          refine ru_iadd ddX11_line_184 ?_
          refine ru_istore ddX11_line_185 (by decide) rfl rfl ?_
          refine ru_iload ddX11_line_187 rfl ?_
          refine ru_aload_n ddX11_line_189 rfl ?_
          refine ru_getR (r := 94) ddX11_line_190 flX11_55 rfl rfl ?_
          refine ru_iload ddX11_line_193 rfl ?_
          obtain ⟨v24, hv, h⟩ := ruB_inv h
          refine ru_iald ddX11_line_195 rfl hv ?_
          clear hv
          refine ru_iload ddX11_line_196 rfl ?_
          obtain ⟨v25, hq, h⟩ := ruB_inv h
          have J : ruW E mmX11_line d Q 216 [some (rurf E 83), none, none, some (.int x3), some (.int x4), some (.int x5), some (.int x6), some (.int x7), some (.int x8), some (.int (x9 + v22)), none, some (.int x11)] [.int v25, .int x10] A := by
              refine ru_iadd ddX11_line_216 ?_
              refine ru_istore ddX11_line_217 (by decide) rfl rfl ?_
              refine ru_iinc (x11 + (1 : Int32)) ddX11_line_219 (by decide) rfl rfl rfl rfl ?_
              refine ru_goto 148 ddX11_line_222 (by decide) ?_
              exact ih (x9 + v22) (x10 + v25) (x11 + (1 : Int32)) h
          replace h := hq
          clear hq
          refine ru_icmp_ge 215 ddX11_line_198 (by decide) (fun hc => ?_) (fun hc => ?_)
          · rw [if_pos hc] at h
            refine ru_iconst (0 : Int32) ddX11_line_215 rfl ?_
            refine ru_wk (L2 := [some (rurf E 83), none, none, some (.int x3), some (.int x4), some (.int x5), some (.int x6), some (.int x7), some (.int x8), some (.int (x9 + v22)), none, some (.int x11)]) ⟨rfl, rfl, rfl, rfl, rfl, rfl, rfl, rfl, rfl, trivial⟩ ?_
            obtain rfl := ruS1 h
            exact J
          · rw [if_neg hc] at h
            refine ru_aload_n ddX11_line_201 rfl ?_
            refine ru_getR (r := 95) ddX11_line_202 flX11_58 rfl rfl ?_
            refine ru_iload ddX11_line_205 rfl ?_
            obtain ⟨v26, hv, h⟩ := ruB_inv h
            refine ru_zald ddX11_line_207 rfl hv ?_
            clear hv
            refine ru_if_eq 215 ddX11_line_208 (by decide) (fun hc => ?_) (fun hc => ?_)
            · rw [if_pos hc] at h
              refine ru_iconst (0 : Int32) ddX11_line_215 rfl ?_
              refine ru_wk (L2 := [some (rurf E 83), none, none, some (.int x3), some (.int x4), some (.int x5), some (.int x6), some (.int x7), some (.int x8), some (.int (x9 + v22)), none, some (.int x11)]) ⟨rfl, rfl, rfl, rfl, rfl, rfl, rfl, rfl, rfl, trivial⟩ ?_
              obtain rfl := ruS1 h
              exact J
            · rw [if_neg hc] at h
              refine ru_iconst (1 : Int32) ddX11_line_211 rfl ?_
              refine ru_goto 216 ddX11_line_212 (by decide) ?_
              refine ru_wk (L2 := [some (rurf E 83), none, none, some (.int x3), some (.int x4), some (.int x5), some (.int x6), some (.int x7), some (.int x8), some (.int (x9 + v22)), none, some (.int x11)]) ⟨rfl, rfl, rfl, rfl, rfl, rfl, rfl, rfl, rfl, trivial⟩ ?_
              obtain rfl := ruS1 h
              exact J
      replace h := hq
      clear hq
      refine ru_icmp_lt 183 ddX11_line_166 (by decide) (fun hc => ?_) (fun hc => ?_)
      · rw [if_pos hc] at h
        refine ru_iconst (0 : Int32) ddX11_line_183 rfl ?_
        refine ru_wk (L2 := [some (rurf E 83), none, none, some (.int x3), some (.int x4), some (.int x5), some (.int x6), some (.int x7), some (.int x8), none, some (.int x10), some (.int x11)]) ⟨rfl, rfl, rfl, rfl, rfl, rfl, rfl, rfl, rfl, trivial⟩ ?_
        obtain rfl := ruS1 h
        exact J
      · rw [if_neg hc] at h
        refine ru_aload_n ddX11_line_169 rfl ?_
        refine ru_getR (r := 95) ddX11_line_170 flX11_58 rfl rfl ?_
        refine ru_iload ddX11_line_173 rfl ?_
        obtain ⟨v23, hv, h⟩ := ruB_inv h
        refine ru_zald ddX11_line_175 rfl hv ?_
        clear hv
        refine ru_if_ne 183 ddX11_line_176 (by decide) (fun hc => ?_) (fun hc => ?_)
        · rw [if_neg hc] at h
          refine ru_iconst (0 : Int32) ddX11_line_183 rfl ?_
          refine ru_wk (L2 := [some (rurf E 83), none, none, some (.int x3), some (.int x4), some (.int x5), some (.int x6), some (.int x7), some (.int x8), none, some (.int x10), some (.int x11)]) ⟨rfl, rfl, rfl, rfl, rfl, rfl, rfl, rfl, rfl, trivial⟩ ?_
          obtain rfl := ruS1 h
          exact J
        · rw [if_pos hc] at h
          refine ru_iconst (1 : Int32) ddX11_line_179 rfl ?_
          refine ru_goto 184 ddX11_line_180 (by decide) ?_
          refine ru_wk (L2 := [some (rurf E 83), none, none, some (.int x3), some (.int x4), some (.int x5), some (.int x6), some (.int x7), some (.int x8), none, some (.int x10), some (.int x11)]) ⟨rfl, rfl, rfl, rfl, rfl, rfl, rfl, rfl, rfl, trivial⟩ ?_
          obtain rfl := ruS1 h
          exact J
theorem wX11_line_l131 {E : ruE} {d : Nat} (hd : 7 ≤ d) {β : Type} {Q : Option Value → ruA → Prop} {res : β} (x3 : Int32) (x4 : Int32) (A : ruA) {k278 : Int32 → Int32 → Int32 → Option (β)} (hk278 : ∀ (x5 : Int32) (x6 : Int32) (x7 : Int32), k278 x5 x6 x7 = some res → ruW E mmX11_line d Q 278 [none, none, none, some (.int x3), none, some (.int x5), some (.int x6), some (.int x7), none, none, none, none] [] A) : ∀ (n : Nat) (x5 : Int32) (x6 : Int32) (x7 : Int32) (x8 : Int32), fX11_line_l131 x3 x4 A k278 n x5 x6 x7 x8 = some res → ruW E mmX11_line d Q 131 [some (rurf E 83), none, none, some (.int x3), some (.int x4), some (.int x5), some (.int x6), some (.int x7), some (.int x8), none, none, none] [] A := by
  intro n
  induction n with
  | zero =>
    intro x5 x6 x7 x8 h
    exact absurd h (by rw [fX11_line_l131]; exact fun h => nomatch h)
  | succ n ih =>
    intro x5 x6 x7 x8 h
    rw [fX11_line_l131] at h
    refine ru_iload ddX11_line_131 rfl ?_
    refine ru_sipush (10000 : Int32) ddX11_line_133 rfl ?_
    refine ru_icmp_ge 278 ddX11_line_136 (by decide) (fun hc => ?_) (fun hc => ?_)
    · rw [if_pos hc] at h
      refine ru_wk (L2 := [none, none, none, some (.int x3), none, some (.int x5), some (.int x6), some (.int x7), none, none, none, none]) ⟨rfl, rfl, rfl, rfl, trivial⟩ ?_
      exact hk278 x5 x6 x7 h
    · rw [if_neg hc] at h
      refine ru_iconst (0 : Int32) ddX11_line_139 rfl ?_
      refine ru_istore ddX11_line_140 (by decide) rfl rfl ?_
      refine ru_iconst (0 : Int32) ddX11_line_142 rfl ?_
      refine ru_istore ddX11_line_143 (by decide) rfl rfl ?_
      refine ru_iconst (0 : Int32) ddX11_line_145 rfl ?_
      refine ru_istore ddX11_line_146 (by decide) rfl rfl ?_
      exact wX11_line_l148 hd x3 x4 x5 x6 x7 x8 A (fun v27 v28 h => by
            refine ru_iload ddX11_line_225 rfl ?_
            refine ru_iload ddX11_line_227 rfl ?_
            refine ru_iadd ddX11_line_229 ?_
            refine ru_iload ddX11_line_230 rfl ?_
            refine ru_isub ddX11_line_232 ?_
            refine ru_iload ddX11_line_233 rfl ?_
            refine ru_isub ddX11_line_235 ?_
            refine ru_istore ddX11_line_236 (by decide) rfl rfl ?_
            refine ru_iload ddX11_line_238 rfl ?_
            obtain ⟨v29, v30, v31, hq, h⟩ := ruB3_inv h
            have J : ruW E mmX11_line d Q 272 [some (rurf E 83), none, none, some (.int x3), some (.int x4), some (.int v29), some (.int v30), some (.int v31), some (.int x8), none, none, none] [] A := by
                refine ru_iinc (x8 + (1 : Int32)) ddX11_line_272 (by decide) rfl rfl rfl rfl ?_
                refine ru_goto 131 ddX11_line_275 (by decide) ?_
                exact ih v29 v30 v31 (x8 + (1 : Int32)) h
            replace h := hq
            clear hq
            refine ru_if_lt 260 ddX11_line_240 (by decide) (fun hc => ?_) (fun hc => ?_)
            · rw [if_pos hc] at h
              refine ru_iload ddX11_line_260 rfl ?_
              refine ru_istore ddX11_line_262 (by decide) rfl rfl ?_
              refine ru_iload ddX11_line_264 rfl ?_
              refine ru_istore ddX11_line_266 (by decide) rfl rfl ?_
              refine ru_iload ddX11_line_268 rfl ?_
              refine ru_istore ddX11_line_270 (by decide) rfl rfl ?_
              refine ru_wk (L2 := [some (rurf E 83), none, none, some (.int x3), some (.int x4), some (.int x8), some (.int v27), some (.int v28), some (.int x8), none, none, none]) ⟨rfl, rfl, rfl, rfl, rfl, rfl, rfl, trivial⟩ ?_
              obtain ⟨rfl, rfl, rfl⟩ := ruS3 h
              exact J
            · rw [if_neg hc] at h
              refine ru_iload ddX11_line_243 rfl ?_
              refine ru_if_lt 260 ddX11_line_245 (by decide) (fun hc => ?_) (fun hc => ?_)
              · rw [if_pos hc] at h
                refine ru_iload ddX11_line_260 rfl ?_
                refine ru_istore ddX11_line_262 (by decide) rfl rfl ?_
                refine ru_iload ddX11_line_264 rfl ?_
                refine ru_istore ddX11_line_266 (by decide) rfl rfl ?_
                refine ru_iload ddX11_line_268 rfl ?_
                refine ru_istore ddX11_line_270 (by decide) rfl rfl ?_
                refine ru_wk (L2 := [some (rurf E 83), none, none, some (.int x3), some (.int x4), some (.int x8), some (.int v27), some (.int v28), some (.int x8), none, none, none]) ⟨rfl, rfl, rfl, rfl, rfl, rfl, rfl, trivial⟩ ?_
                obtain ⟨rfl, rfl, rfl⟩ := ruS3 h
                exact J
              · rw [if_neg hc] at h
                refine ru_iload ddX11_line_248 rfl ?_
                refine ru_if_ne 272 ddX11_line_250 (by decide) (fun hc => ?_) (fun hc => ?_)
                · rw [if_neg hc] at h
                  refine ru_wk (L2 := [some (rurf E 83), none, none, some (.int x3), some (.int x4), some (.int x5), some (.int x6), some (.int x7), some (.int x8), none, none, none]) ⟨rfl, rfl, rfl, rfl, rfl, rfl, rfl, trivial⟩ ?_
                  obtain ⟨rfl, rfl, rfl⟩ := ruS3 h
                  exact J
                · rw [if_pos hc] at h
                  refine ru_iload ddX11_line_253 rfl ?_
                  refine ru_iload ddX11_line_255 rfl ?_
                  refine ru_icmp_ge 272 ddX11_line_257 (by decide) (fun hc => ?_) (fun hc => ?_)
                  · rw [if_pos hc] at h
                    refine ru_wk (L2 := [some (rurf E 83), none, none, some (.int x3), some (.int x4), some (.int x5), some (.int x6), some (.int x7), some (.int x8), none, none, none]) ⟨rfl, rfl, rfl, rfl, rfl, rfl, rfl, trivial⟩ ?_
                    obtain ⟨rfl, rfl, rfl⟩ := ruS3 h
                    exact J
                  · rw [if_neg hc] at h
                    refine ru_iload ddX11_line_260 rfl ?_
                    refine ru_istore ddX11_line_262 (by decide) rfl rfl ?_
                    refine ru_iload ddX11_line_264 rfl ?_
                    refine ru_istore ddX11_line_266 (by decide) rfl rfl ?_
                    refine ru_iload ddX11_line_268 rfl ?_
                    refine ru_istore ddX11_line_270 (by decide) rfl rfl ?_
                    refine ru_wk (L2 := [some (rurf E 83), none, none, some (.int x3), some (.int x4), some (.int x8), some (.int v27), some (.int v28), some (.int x8), none, none, none]) ⟨rfl, rfl, rfl, rfl, rfl, rfl, rfl, trivial⟩ ?_
                    obtain ⟨rfl, rfl, rfl⟩ := ruS3 h
                    exact J) ruF (0 : Int32) (0 : Int32) (0 : Int32) h
theorem wX11_line {E : ruE} (d : Nat) (hd : 7 ≤ d) (x1 : Int32) (x2 : Int32) (x3 : Int32) (A : ruA) {r : Int32} {B : ruA} (h : fX11_line x1 x2 x3 A = some (r, B)) : ruC E mmX11_line d [rurf E 83, .int x1, .int x2, .int x3] A (ruPr r B) := by
  refine ruC.of (L := [some (rurf E 83), some (.int x1), some (.int x2), some (.int x3), none, none, none, none, none, none, none, none]) (by decide) rfl (Nat.le_of_ble_eq_true rfl) rfl ?_
  unfold fX11_line at h
  refine ru_iload_n ddX11_line_0 rfl ?_
  refine ru_iconst (0 : Int32) ddX11_line_1 rfl ?_
  refine ru_iconst (5 : Int32) ddX11_line_2 rfl ?_
  obtain ⟨v1, hv, h⟩ := ruB_inv h
  refine ru_callSi (as := [.int x1, .int (0 : Int32), .int (5 : Int32)]) (st := []) ddX11_line_3 csX11_66 (wX11_within 1 (Nat.le_refl _) x1 (0 : Int32) (5 : Int32) A hv) rfl (Nat.le_trans (m := 7) (by decide) hd) (Nat.le_of_ble_eq_true rfl) ?_
  clear hv
  refine ru_if_eq 25 ddX11_line_6 (by decide) (fun hc => ?_) (fun hc => ?_)
  · rw [if_pos hc] at h
    refine ru_aload_n ddX11_line_25 rfl ?_
    refine ru_ldc (v := (-1000001 : Int32)) ddX11_line_26 ckX11_65 ?_
    obtain ⟨v2, A3, hv, h⟩ := ruB2_inv h
    refine ru_callVi (as := [.int (-1000001 : Int32)]) (st := []) ddX11_line_28 cvX11_82 rfl (wX11_finding 1 (Nat.le_refl _) (-1000001 : Int32) A hv) rfl (Nat.le_trans (m := 7) (by decide) hd) (Nat.le_of_ble_eq_true rfl) ?_
    clear hv
    exact ru_iretW ddX11_line_31 rfl h
  · rw [if_neg hc] at h
    refine ru_iload_n ddX11_line_9 rfl ?_
    obtain ⟨v4, hv, h⟩ := ruB_inv h
    refine ru_callSi (as := [.int x2]) (st := []) ddX11_line_10 csX11_128 (wX11_isYear 2 (Nat.le_refl _) x2 A hv) rfl (Nat.le_trans (m := 7) (by decide) hd) (Nat.le_of_ble_eq_true rfl) ?_
    clear hv
    refine ru_if_eq 25 ddX11_line_13 (by decide) (fun hc => ?_) (fun hc => ?_)
    · rw [if_pos hc] at h
      refine ru_aload_n ddX11_line_25 rfl ?_
      refine ru_ldc (v := (-1000001 : Int32)) ddX11_line_26 ckX11_65 ?_
      obtain ⟨v5, A6, hv, h⟩ := ruB2_inv h
      refine ru_callVi (as := [.int (-1000001 : Int32)]) (st := []) ddX11_line_28 cvX11_82 rfl (wX11_finding 1 (Nat.le_refl _) (-1000001 : Int32) A hv) rfl (Nat.le_trans (m := 7) (by decide) hd) (Nat.le_of_ble_eq_true rfl) ?_
      clear hv
      exact ru_iretW ddX11_line_31 rfl h
    · rw [if_neg hc] at h
      refine ru_iload_n ddX11_line_16 rfl ?_
      refine ru_iconst (0 : Int32) ddX11_line_17 rfl ?_
      refine ru_iconst (2 : Int32) ddX11_line_18 rfl ?_
      obtain ⟨v7, hv, h⟩ := ruB_inv h
      refine ru_callSi (as := [.int x3, .int (0 : Int32), .int (2 : Int32)]) (st := []) ddX11_line_19 csX11_66 (wX11_within 1 (Nat.le_refl _) x3 (0 : Int32) (2 : Int32) A hv) rfl (Nat.le_trans (m := 7) (by decide) hd) (Nat.le_of_ble_eq_true rfl) ?_
      clear hv
      refine ru_if_ne 32 ddX11_line_22 (by decide) (fun hc => ?_) (fun hc => ?_)
      · rw [if_neg hc] at h
        refine ru_iconst (0 : Int32) ddX11_line_32 rfl ?_
        refine ru_istore ddX11_line_33 (by decide) rfl rfl ?_
        refine ru_iconst (0 : Int32) ddX11_line_35 rfl ?_
        refine ru_istore ddX11_line_36 (by decide) rfl rfl ?_
        exact wX11_line_l38 hd x1 x2 x3 (fun v19 A20 h => by
              refine ru_iload ddX11_line_107 rfl ?_
              refine ru_if_ne 119 ddX11_line_109 (by decide) (fun hc => ?_) (fun hc => ?_)
              · rw [if_neg hc] at h
                refine ru_iconst (-1 : Int32) ddX11_line_119 rfl ?_
                refine ru_istore ddX11_line_120 (by decide) rfl rfl ?_
                refine ru_iconst (0 : Int32) ddX11_line_122 rfl ?_
                refine ru_istore ddX11_line_123 (by decide) rfl rfl ?_
                refine ru_iconst (0 : Int32) ddX11_line_125 rfl ?_
                refine ru_istore ddX11_line_126 (by decide) rfl rfl ?_
                refine ru_iconst (0 : Int32) ddX11_line_128 rfl ?_
                refine ru_istore ddX11_line_129 (by decide) rfl rfl ?_
                exact wX11_line_l131 hd x3 v19 A20 (fun v32 v33 v34 h => by
                      refine ru_iload_n ddX11_line_278 rfl ?_
                      refine ru_if_ne 287 ddX11_line_279 (by decide) (fun hc => ?_) (fun hc => ?_)
                      · rw [if_neg hc] at h
                        refine ru_iload_n ddX11_line_287 rfl ?_
                        refine ru_iconst (1 : Int32) ddX11_line_288 rfl ?_
                        refine ru_icmp_ne 297 ddX11_line_289 (by decide) (fun hc => ?_) (fun hc => ?_)
                        · rw [if_neg hc] at h
                          refine ru_iload ddX11_line_297 rfl ?_
                          exact ru_iretW ddX11_line_299 rfl h
                        · rw [if_pos hc] at h
                          refine ru_iload ddX11_line_292 rfl ?_
                          refine ru_goto 299 ddX11_line_294 (by decide) ?_
                          exact ru_iretW ddX11_line_299 rfl h
                      · rw [if_pos hc] at h
                        refine ru_iload ddX11_line_282 rfl ?_
                        refine ru_goto 299 ddX11_line_284 (by decide) ?_
                        exact ru_iretW ddX11_line_299 rfl h) ruF (-1 : Int32) (0 : Int32) (0 : Int32) (0 : Int32) h
              · rw [if_pos hc] at h
                refine ru_aload_n ddX11_line_112 rfl ?_
                refine ru_ldc (v := (-1000004 : Int32)) ddX11_line_113 ckX11_127 ?_
                obtain ⟨v35, A36, hv, h⟩ := ruB2_inv h
                refine ru_callVi (as := [.int (-1000004 : Int32)]) (st := []) ddX11_line_115 cvX11_82 rfl (wX11_finding 1 (Nat.le_refl _) (-1000004 : Int32) A20 hv) rfl (Nat.le_trans (m := 7) (by decide) hd) (Nat.le_of_ble_eq_true rfl) ?_
                clear hv
                exact ru_iretW ddX11_line_118 rfl h) ruF (0 : Int32) (0 : Int32) A h
      · rw [if_pos hc] at h
        refine ru_aload_n ddX11_line_25 rfl ?_
        refine ru_ldc (v := (-1000001 : Int32)) ddX11_line_26 ckX11_65 ?_
        obtain ⟨v37, A38, hv, h⟩ := ruB2_inv h
        refine ru_callVi (as := [.int (-1000001 : Int32)]) (st := []) ddX11_line_28 cvX11_82 rfl (wX11_finding 1 (Nat.le_refl _) (-1000001 : Int32) A hv) rfl (Nat.le_trans (m := 7) (by decide) hd) (Nat.le_of_ble_eq_true rfl) ?_
        clear hv
        exact ru_iretW ddX11_line_31 rfl h
theorem wX11_areHours {E : ruE} (d : Nat) (hd : 2 ≤ d) (x0 : Int32) (x1 : Int32) (A : ruA) {r : Int32} (h : fX11_areHours x0 x1 = some r) : ruC E mmX11_areHours d [.int x0, .int x1] A (ruPr r A) := by
  refine ruC.of (L := [some (.int x0), some (.int x1)]) (by decide) rfl (Nat.le_of_ble_eq_true rfl) rfl ?_
  unfold fX11_areHours at h
  refine ru_iload_n ddX11_areHours_0 rfl ?_
  refine ru_iconst (0 : Int32) ddX11_areHours_1 rfl ?_
  refine ru_bipush (99 : Int32) ddX11_areHours_2 rfl ?_
  obtain ⟨v1, hv, h⟩ := ruB_inv h
  refine ru_callSi (as := [.int x0, .int (0 : Int32), .int (99 : Int32)]) (st := []) ddX11_areHours_4 csX11_66 (wX11_within 1 (Nat.le_refl _) x0 (0 : Int32) (99 : Int32) A hv) rfl (Nat.le_trans (m := 2) (by decide) hd) (Nat.le_of_ble_eq_true rfl) ?_
  clear hv
  refine ru_if_eq 26 ddX11_areHours_7 (by decide) (fun hc => ?_) (fun hc => ?_)
  · rw [if_pos hc] at h
    refine ru_iconst (0 : Int32) ddX11_areHours_26 rfl ?_
    exact ru_zretP ddX11_areHours_27 rfl (Or.inl rfl) h
  · rw [if_neg hc] at h
    refine ru_iload_n ddX11_areHours_10 rfl ?_
    refine ru_iload_n ddX11_areHours_11 rfl ?_
    refine ru_iconst (1 : Int32) ddX11_areHours_12 rfl ?_
    refine ru_iadd ddX11_areHours_13 ?_
    refine ru_bipush (99 : Int32) ddX11_areHours_14 rfl ?_
    obtain ⟨v2, hv, h⟩ := ruB_inv h
    refine ru_callSi (as := [.int x1, .int (x0 + (1 : Int32)), .int (99 : Int32)]) (st := []) ddX11_areHours_16 csX11_66 (wX11_within 1 (Nat.le_refl _) x1 (x0 + (1 : Int32)) (99 : Int32) A hv) rfl (Nat.le_trans (m := 2) (by decide) hd) (Nat.le_of_ble_eq_true rfl) ?_
    clear hv
    refine ru_if_eq 26 ddX11_areHours_19 (by decide) (fun hc => ?_) (fun hc => ?_)
    · rw [if_pos hc] at h
      refine ru_iconst (0 : Int32) ddX11_areHours_26 rfl ?_
      exact ru_zretP ddX11_areHours_27 rfl (Or.inl rfl) h
    · rw [if_neg hc] at h
      refine ru_iconst (1 : Int32) ddX11_areHours_22 rfl ?_
      refine ru_goto 27 ddX11_areHours_23 (by decide) ?_
      exact ru_zretP ddX11_areHours_27 rfl (Or.inr rfl) h
theorem wX11_holds {E : ruE} (d : Nat) (hd : 3 ≤ d) (x1 : Int32) (x2 : Int32) (x3 : Int32) (x4 : Int32) (A : ruA) {r : Int32} {B : ruA} (h : fX11_holds x1 x2 x3 x4 A = some (r, B)) : ruC E mmX11_holds d [rurf E 83, .int x1, .int x2, .int x3, .int x4] A (ruPr r B) := by
  refine ruC.of (L := [some (rurf E 83), some (.int x1), some (.int x2), some (.int x3), some (.int x4), none]) (by decide) rfl (Nat.le_of_ble_eq_true rfl) rfl ?_
  unfold fX11_holds at h
  refine ru_iload_n ddX11_holds_0 rfl ?_
  refine ru_iconst (0 : Int32) ddX11_holds_1 rfl ?_
  refine ru_bipush (9 : Int32) ddX11_holds_2 rfl ?_
  obtain ⟨v1, hv, h⟩ := ruB_inv h
  refine ru_callSi (as := [.int x1, .int (0 : Int32), .int (9 : Int32)]) (st := []) ddX11_holds_4 csX11_66 (wX11_within 1 (Nat.le_refl _) x1 (0 : Int32) (9 : Int32) A hv) rfl (Nat.le_trans (m := 3) (by decide) hd) (Nat.le_of_ble_eq_true rfl) ?_
  clear hv
  refine ru_if_eq 28 ddX11_holds_7 (by decide) (fun hc => ?_) (fun hc => ?_)
  · rw [if_pos hc] at h
    refine ru_aload_n ddX11_holds_28 rfl ?_
    refine ru_ldc (v := (-1000001 : Int32)) ddX11_holds_29 ckX11_65 ?_
    obtain ⟨v2, A3, hv, h⟩ := ruB2_inv h
    refine ru_callVi (as := [.int (-1000001 : Int32)]) (st := []) ddX11_holds_31 cvX11_82 rfl (wX11_finding 1 (Nat.le_refl _) (-1000001 : Int32) A hv) rfl (Nat.le_trans (m := 3) (by decide) hd) (Nat.le_of_ble_eq_true rfl) ?_
    clear hv
    exact ru_iretW ddX11_holds_34 rfl h
  · rw [if_neg hc] at h
    refine ru_aload_n ddX11_holds_10 rfl ?_
    refine ru_iload_n ddX11_holds_11 rfl ?_
    refine ru_iconst (1 : Int32) ddX11_holds_12 rfl ?_
    obtain ⟨v4, hv, h⟩ := ruB_inv h
    refine ru_callVi (as := [.int x2, .int (1 : Int32)]) (st := []) ddX11_holds_13 cvX11_87 rfl (wX11_is 2 (Nat.le_refl _) x2 (1 : Int32) A hv) rfl (Nat.le_trans (m := 3) (by decide) hd) (Nat.le_of_ble_eq_true rfl) ?_
    clear hv
    refine ru_if_eq 28 ddX11_holds_16 (by decide) (fun hc => ?_) (fun hc => ?_)
    · rw [if_pos hc] at h
      refine ru_aload_n ddX11_holds_28 rfl ?_
      refine ru_ldc (v := (-1000001 : Int32)) ddX11_holds_29 ckX11_65 ?_
      obtain ⟨v5, A6, hv, h⟩ := ruB2_inv h
      refine ru_callVi (as := [.int (-1000001 : Int32)]) (st := []) ddX11_holds_31 cvX11_82 rfl (wX11_finding 1 (Nat.le_refl _) (-1000001 : Int32) A hv) rfl (Nat.le_trans (m := 3) (by decide) hd) (Nat.le_of_ble_eq_true rfl) ?_
      clear hv
      exact ru_iretW ddX11_holds_34 rfl h
    · rw [if_neg hc] at h
      refine ru_iload_n ddX11_holds_19 rfl ?_
      refine ru_iload ddX11_holds_20 rfl ?_
      obtain ⟨v7, hv, h⟩ := ruB_inv h
      refine ru_callSi (as := [.int x3, .int x4]) (st := []) ddX11_holds_22 csX11_255 (wX11_areHours 2 (Nat.le_refl _) x3 x4 A hv) rfl (Nat.le_trans (m := 3) (by decide) hd) (Nat.le_of_ble_eq_true rfl) ?_
      clear hv
      refine ru_if_ne 35 ddX11_holds_25 (by decide) (fun hc => ?_) (fun hc => ?_)
      · rw [if_neg hc] at h
        refine ru_aload_n ddX11_holds_35 rfl ?_
        refine ru_getR (r := 84) ddX11_holds_36 flX11_9 rfl rfl ?_
        refine ru_iconst (4 : Int32) ddX11_holds_39 rfl ?_
        obtain ⟨v8, hv, h⟩ := ruB_inv h
        refine ru_iald ddX11_holds_40 rfl hv ?_
        clear hv
        refine ru_istore ddX11_holds_41 (by decide) rfl rfl ?_
        refine ru_iload ddX11_holds_43 rfl ?_
        refine ru_bipush (30 : Int32) ddX11_holds_45 rfl ?_
        refine ru_icmp_ne 57 ddX11_holds_47 (by decide) (fun hc => ?_) (fun hc => ?_)
        · rw [if_neg hc] at h
          refine ru_aload_n ddX11_holds_57 rfl ?_
          refine ru_getR (r := 84) ddX11_holds_58 flX11_9 rfl rfl ?_
          refine ru_sipush (4784 : Int32) ddX11_holds_61 rfl ?_
          refine ru_iconst (4 : Int32) ddX11_holds_64 rfl ?_
          refine ru_iload ddX11_holds_65 rfl ?_
          refine ru_imul ddX11_holds_67 ?_
          refine ru_iadd ddX11_holds_68 ?_
          refine ru_iload_n ddX11_holds_69 rfl ?_
          obtain ⟨A9, hv, h⟩ := ruB_inv h
          refine ru_iast ddX11_holds_70 rfl hv ?_
          clear hv
          refine ru_aload_n ddX11_holds_71 rfl ?_
          refine ru_getR (r := 84) ddX11_holds_72 flX11_9 rfl rfl ?_
          refine ru_sipush (4784 : Int32) ddX11_holds_75 rfl ?_
          refine ru_iconst (4 : Int32) ddX11_holds_78 rfl ?_
          refine ru_iload ddX11_holds_79 rfl ?_
          refine ru_imul ddX11_holds_81 ?_
          refine ru_iadd ddX11_holds_82 ?_
          refine ru_iconst (1 : Int32) ddX11_holds_83 rfl ?_
          refine ru_iadd ddX11_holds_84 ?_
          refine ru_iload_n ddX11_holds_85 rfl ?_
          obtain ⟨A10, hv, h⟩ := ruB_inv h
          refine ru_iast ddX11_holds_86 rfl hv ?_
          clear hv
          refine ru_aload_n ddX11_holds_87 rfl ?_
          refine ru_getR (r := 84) ddX11_holds_88 flX11_9 rfl rfl ?_
          refine ru_sipush (4784 : Int32) ddX11_holds_91 rfl ?_
          refine ru_iconst (4 : Int32) ddX11_holds_94 rfl ?_
          refine ru_iload ddX11_holds_95 rfl ?_
          refine ru_imul ddX11_holds_97 ?_
          refine ru_iadd ddX11_holds_98 ?_
          refine ru_iconst (2 : Int32) ddX11_holds_99 rfl ?_
          refine ru_iadd ddX11_holds_100 ?_
          refine ru_iload_n ddX11_holds_101 rfl ?_
          obtain ⟨A11, hv, h⟩ := ruB_inv h
          refine ru_iast ddX11_holds_102 rfl hv ?_
          clear hv
          refine ru_aload_n ddX11_holds_103 rfl ?_
          refine ru_getR (r := 84) ddX11_holds_104 flX11_9 rfl rfl ?_
          refine ru_sipush (4784 : Int32) ddX11_holds_107 rfl ?_
          refine ru_iconst (4 : Int32) ddX11_holds_110 rfl ?_
          refine ru_iload ddX11_holds_111 rfl ?_
          refine ru_imul ddX11_holds_113 ?_
          refine ru_iadd ddX11_holds_114 ?_
          refine ru_iconst (3 : Int32) ddX11_holds_115 rfl ?_
          refine ru_iadd ddX11_holds_116 ?_
          refine ru_iload ddX11_holds_117 rfl ?_
          obtain ⟨A12, hv, h⟩ := ruB_inv h
          refine ru_iast ddX11_holds_119 rfl hv ?_
          clear hv
          refine ru_aload_n ddX11_holds_120 rfl ?_
          refine ru_getR (r := 84) ddX11_holds_121 flX11_9 rfl rfl ?_
          refine ru_iconst (4 : Int32) ddX11_holds_124 rfl ?_
          refine ru_dup2 ddX11_holds_125 rfl rfl ?_
          obtain ⟨v13, hv, h⟩ := ruB_inv h
          refine ru_iald ddX11_holds_126 rfl hv ?_
          clear hv
          refine ru_iconst (1 : Int32) ddX11_holds_127 rfl ?_
          refine ru_iadd ddX11_holds_128 ?_
          obtain ⟨A14, hv, h⟩ := ruB_inv h
          refine ru_iast ddX11_holds_129 rfl hv ?_
          clear hv
          refine ru_aload_n ddX11_holds_130 rfl ?_
          refine ru_getR (r := 84) ddX11_holds_131 flX11_9 rfl rfl ?_
          refine ru_iconst (4 : Int32) ddX11_holds_134 rfl ?_
          obtain ⟨v15, hv, h⟩ := ruB_inv h
          refine ru_iald ddX11_holds_135 rfl hv ?_
          clear hv
          exact ru_iretW ddX11_holds_136 rfl h
        · rw [if_pos hc] at h
          refine ru_aload_n ddX11_holds_50 rfl ?_
          refine ru_ldc (v := (-1000002 : Int32)) ddX11_holds_51 ckX11_86 ?_
          obtain ⟨v16, A17, hv, h⟩ := ruB2_inv h
          refine ru_callVi (as := [.int (-1000002 : Int32)]) (st := []) ddX11_holds_53 cvX11_82 rfl (wX11_finding 1 (Nat.le_refl _) (-1000002 : Int32) A hv) rfl (Nat.le_trans (m := 3) (by decide) hd) (Nat.le_of_ble_eq_true rfl) ?_
          clear hv
          exact ru_iretW ddX11_holds_56 rfl h
      · rw [if_pos hc] at h
        refine ru_aload_n ddX11_holds_28 rfl ?_
        refine ru_ldc (v := (-1000001 : Int32)) ddX11_holds_29 ckX11_65 ?_
        obtain ⟨v18, A19, hv, h⟩ := ruB2_inv h
        refine ru_callVi (as := [.int (-1000001 : Int32)]) (st := []) ddX11_holds_31 cvX11_82 rfl (wX11_finding 1 (Nat.le_refl _) (-1000001 : Int32) A hv) rfl (Nat.le_trans (m := 3) (by decide) hd) (Nat.le_of_ble_eq_true rfl) ?_
        clear hv
        exact ru_iretW ddX11_holds_34 rfl h
theorem wX11_isHeld_l6 {E : ruE} {d : Nat} (hd : 1 ≤ d) {β : Type} {Q : Option Value → ruA → Prop} {res : β} (x1 : Int32) (x2 : Int32) (x3 : Int32) (A : ruA) {k99 : Int32 → Option (β)} (hk99 : ∀ (x4 : Int32), k99 x4 = some res → ruW E mmX11_isHeld d Q 99 [none, none, none, none, some (.int x4), none, none] [] A) : ∀ (n : Nat) (x4 : Int32) (x5 : Int32), fX11_isHeld_l6 x1 x2 x3 A k99 n x4 x5 = some res → ruW E mmX11_isHeld d Q 6 [some (rurf E 83), some (.int x1), some (.int x2), some (.int x3), some (.int x4), some (.int x5), none] [] A := by
  intro n
  induction n with
  | zero =>
    intro x4 x5 h
    exact absurd h (by rw [fX11_isHeld_l6]; exact fun h => nomatch h)
  | succ n ih =>
    intro x4 x5 h
    rw [fX11_isHeld_l6] at h
    refine ru_iload ddX11_isHeld_6 rfl ?_
    refine ru_aload_n ddX11_isHeld_8 rfl ?_
    refine ru_getR (r := 84) ddX11_isHeld_9 flX11_9 rfl rfl ?_
    refine ru_iconst (4 : Int32) ddX11_isHeld_12 rfl ?_
    obtain ⟨v1, hv, h⟩ := ruB_inv h
    refine ru_iald ddX11_isHeld_13 rfl hv ?_
    clear hv
    refine ru_icmp_ge 99 ddX11_isHeld_14 (by decide) (fun hc => ?_) (fun hc => ?_)
    · rw [if_pos hc] at h
      refine ru_wk (L2 := [none, none, none, none, some (.int x4), none, none]) ⟨rfl, trivial⟩ ?_
      exact hk99 x4 h
    · rw [if_neg hc] at h
      refine ru_sipush (4784 : Int32) ddX11_isHeld_17 rfl ?_
      refine ru_iconst (4 : Int32) ddX11_isHeld_20 rfl ?_
      refine ru_iload ddX11_isHeld_21 rfl ?_
      refine ru_imul ddX11_isHeld_23 ?_
      refine ru_iadd ddX11_isHeld_24 ?_
      refine ru_istore ddX11_isHeld_25 (by decide) rfl rfl ?_
      refine ru_iload ddX11_isHeld_27 rfl ?_
      obtain ⟨v2, hq, h⟩ := ruB_inv h
      have J : ruW E mmX11_isHeld d Q 91 [some (rurf E 83), some (.int x1), some (.int x2), some (.int x3), none, some (.int x5), none] [.int v2] A := by
          refine ru_istore ddX11_isHeld_91 (by decide) rfl rfl ?_
          refine ru_iinc (x5 + (1 : Int32)) ddX11_isHeld_93 (by decide) rfl rfl rfl rfl ?_
          refine ru_goto 6 ddX11_isHeld_96 (by decide) ?_
          exact ih v2 (x5 + (1 : Int32)) h
      replace h := hq
      clear hq
      refine ru_if_ne 86 ddX11_isHeld_29 (by decide) (fun hc => ?_) (fun hc => ?_)
      · rw [if_neg hc] at h
        refine ru_iconst (1 : Int32) ddX11_isHeld_86 rfl ?_
        refine ru_goto 91 ddX11_isHeld_87 (by decide) ?_
        refine ru_wk (L2 := [some (rurf E 83), some (.int x1), some (.int x2), some (.int x3), none, some (.int x5), none]) ⟨rfl, rfl, rfl, rfl, rfl, trivial⟩ ?_
        obtain rfl := ruS1 h
        exact J
      · rw [if_pos hc] at h
        refine ru_iload_n ddX11_isHeld_32 rfl ?_
        refine ru_if_lt 47 ddX11_isHeld_33 (by decide) (fun hc => ?_) (fun hc => ?_)
        · rw [if_pos hc] at h
          refine ru_aload_n ddX11_isHeld_47 rfl ?_
          refine ru_getR (r := 84) ddX11_isHeld_48 flX11_9 rfl rfl ?_
          refine ru_iload ddX11_isHeld_51 rfl ?_
          refine ru_iconst (1 : Int32) ddX11_isHeld_53 rfl ?_
          refine ru_iadd ddX11_isHeld_54 ?_
          obtain ⟨v3, hv, h⟩ := ruB_inv h
          refine ru_iald ddX11_isHeld_55 rfl hv ?_
          clear hv
          refine ru_iload_n ddX11_isHeld_56 rfl ?_
          refine ru_icmp_ne 90 ddX11_isHeld_57 (by decide) (fun hc => ?_) (fun hc => ?_)
          · rw [if_neg hc] at h
            refine ru_iconst (0 : Int32) ddX11_isHeld_90 rfl ?_
            refine ru_wk (L2 := [some (rurf E 83), some (.int x1), some (.int x2), some (.int x3), none, some (.int x5), none]) ⟨rfl, rfl, rfl, rfl, rfl, trivial⟩ ?_
            obtain rfl := ruS1 h
            exact J
          · rw [if_pos hc] at h
            refine ru_iload_n ddX11_isHeld_60 rfl ?_
            refine ru_aload_n ddX11_isHeld_61 rfl ?_
            refine ru_getR (r := 84) ddX11_isHeld_62 flX11_9 rfl rfl ?_
            refine ru_iload ddX11_isHeld_65 rfl ?_
            refine ru_iconst (2 : Int32) ddX11_isHeld_67 rfl ?_
            refine ru_iadd ddX11_isHeld_68 ?_
            obtain ⟨v4, hv, h⟩ := ruB_inv h
            refine ru_iald ddX11_isHeld_69 rfl hv ?_
            clear hv
            refine ru_icmp_lt 90 ddX11_isHeld_70 (by decide) (fun hc => ?_) (fun hc => ?_)
            · rw [if_pos hc] at h
              refine ru_iconst (0 : Int32) ddX11_isHeld_90 rfl ?_
              refine ru_wk (L2 := [some (rurf E 83), some (.int x1), some (.int x2), some (.int x3), none, some (.int x5), none]) ⟨rfl, rfl, rfl, rfl, rfl, trivial⟩ ?_
              obtain rfl := ruS1 h
              exact J
            · rw [if_neg hc] at h
              refine ru_iload_n ddX11_isHeld_73 rfl ?_
              refine ru_aload_n ddX11_isHeld_74 rfl ?_
              refine ru_getR (r := 84) ddX11_isHeld_75 flX11_9 rfl rfl ?_
              refine ru_iload ddX11_isHeld_78 rfl ?_
              refine ru_iconst (3 : Int32) ddX11_isHeld_80 rfl ?_
              refine ru_iadd ddX11_isHeld_81 ?_
              obtain ⟨v5, hv, h⟩ := ruB_inv h
              refine ru_iald ddX11_isHeld_82 rfl hv ?_
              clear hv
              refine ru_icmp_ge 90 ddX11_isHeld_83 (by decide) (fun hc => ?_) (fun hc => ?_)
              · rw [if_pos hc] at h
                refine ru_iconst (0 : Int32) ddX11_isHeld_90 rfl ?_
                refine ru_wk (L2 := [some (rurf E 83), some (.int x1), some (.int x2), some (.int x3), none, some (.int x5), none]) ⟨rfl, rfl, rfl, rfl, rfl, trivial⟩ ?_
                obtain rfl := ruS1 h
                exact J
              · rw [if_neg hc] at h
                refine ru_iconst (1 : Int32) ddX11_isHeld_86 rfl ?_
                refine ru_goto 91 ddX11_isHeld_87 (by decide) ?_
                refine ru_wk (L2 := [some (rurf E 83), some (.int x1), some (.int x2), some (.int x3), none, some (.int x5), none]) ⟨rfl, rfl, rfl, rfl, rfl, trivial⟩ ?_
                obtain rfl := ruS1 h
                exact J
        · rw [if_neg hc] at h
          refine ru_aload_n ddX11_isHeld_36 rfl ?_
          refine ru_getR (r := 84) ddX11_isHeld_37 flX11_9 rfl rfl ?_
          refine ru_iload ddX11_isHeld_40 rfl ?_
          obtain ⟨v6, hv, h⟩ := ruB_inv h
          refine ru_iald ddX11_isHeld_42 rfl hv ?_
          clear hv
          refine ru_iload_n ddX11_isHeld_43 rfl ?_
          refine ru_icmp_ne 90 ddX11_isHeld_44 (by decide) (fun hc => ?_) (fun hc => ?_)
          · rw [if_neg hc] at h
            refine ru_iconst (0 : Int32) ddX11_isHeld_90 rfl ?_
            refine ru_wk (L2 := [some (rurf E 83), some (.int x1), some (.int x2), some (.int x3), none, some (.int x5), none]) ⟨rfl, rfl, rfl, rfl, rfl, trivial⟩ ?_
            obtain rfl := ruS1 h
            exact J
          · rw [if_pos hc] at h
            refine ru_aload_n ddX11_isHeld_47 rfl ?_
            refine ru_getR (r := 84) ddX11_isHeld_48 flX11_9 rfl rfl ?_
            refine ru_iload ddX11_isHeld_51 rfl ?_
            refine ru_iconst (1 : Int32) ddX11_isHeld_53 rfl ?_
            refine ru_iadd ddX11_isHeld_54 ?_
            obtain ⟨v7, hv, h⟩ := ruB_inv h
            refine ru_iald ddX11_isHeld_55 rfl hv ?_
            clear hv
            refine ru_iload_n ddX11_isHeld_56 rfl ?_
            refine ru_icmp_ne 90 ddX11_isHeld_57 (by decide) (fun hc => ?_) (fun hc => ?_)
            · rw [if_neg hc] at h
              refine ru_iconst (0 : Int32) ddX11_isHeld_90 rfl ?_
              refine ru_wk (L2 := [some (rurf E 83), some (.int x1), some (.int x2), some (.int x3), none, some (.int x5), none]) ⟨rfl, rfl, rfl, rfl, rfl, trivial⟩ ?_
              obtain rfl := ruS1 h
              exact J
            · rw [if_pos hc] at h
              refine ru_iload_n ddX11_isHeld_60 rfl ?_
              refine ru_aload_n ddX11_isHeld_61 rfl ?_
              refine ru_getR (r := 84) ddX11_isHeld_62 flX11_9 rfl rfl ?_
              refine ru_iload ddX11_isHeld_65 rfl ?_
              refine ru_iconst (2 : Int32) ddX11_isHeld_67 rfl ?_
              refine ru_iadd ddX11_isHeld_68 ?_
              obtain ⟨v8, hv, h⟩ := ruB_inv h
              refine ru_iald ddX11_isHeld_69 rfl hv ?_
              clear hv
              refine ru_icmp_lt 90 ddX11_isHeld_70 (by decide) (fun hc => ?_) (fun hc => ?_)
              · rw [if_pos hc] at h
                refine ru_iconst (0 : Int32) ddX11_isHeld_90 rfl ?_
                refine ru_wk (L2 := [some (rurf E 83), some (.int x1), some (.int x2), some (.int x3), none, some (.int x5), none]) ⟨rfl, rfl, rfl, rfl, rfl, trivial⟩ ?_
                obtain rfl := ruS1 h
                exact J
              · rw [if_neg hc] at h
                refine ru_iload_n ddX11_isHeld_73 rfl ?_
                refine ru_aload_n ddX11_isHeld_74 rfl ?_
                refine ru_getR (r := 84) ddX11_isHeld_75 flX11_9 rfl rfl ?_
                refine ru_iload ddX11_isHeld_78 rfl ?_
                refine ru_iconst (3 : Int32) ddX11_isHeld_80 rfl ?_
                refine ru_iadd ddX11_isHeld_81 ?_
                obtain ⟨v9, hv, h⟩ := ruB_inv h
                refine ru_iald ddX11_isHeld_82 rfl hv ?_
                clear hv
                refine ru_icmp_ge 90 ddX11_isHeld_83 (by decide) (fun hc => ?_) (fun hc => ?_)
                · rw [if_pos hc] at h
                  refine ru_iconst (0 : Int32) ddX11_isHeld_90 rfl ?_
                  refine ru_wk (L2 := [some (rurf E 83), some (.int x1), some (.int x2), some (.int x3), none, some (.int x5), none]) ⟨rfl, rfl, rfl, rfl, rfl, trivial⟩ ?_
                  obtain rfl := ruS1 h
                  exact J
                · rw [if_neg hc] at h
                  refine ru_iconst (1 : Int32) ddX11_isHeld_86 rfl ?_
                  refine ru_goto 91 ddX11_isHeld_87 (by decide) ?_
                  refine ru_wk (L2 := [some (rurf E 83), some (.int x1), some (.int x2), some (.int x3), none, some (.int x5), none]) ⟨rfl, rfl, rfl, rfl, rfl, trivial⟩ ?_
                  obtain rfl := ruS1 h
                  exact J
theorem wX11_isHeld {E : ruE} (d : Nat) (hd : 1 ≤ d) (x1 : Int32) (x2 : Int32) (x3 : Int32) (A : ruA) {r : Int32} (h : fX11_isHeld x1 x2 x3 A = some r) : ruC E mmX11_isHeld d [rurf E 83, .int x1, .int x2, .int x3] A (ruPr r A) := by
  refine ruC.of (L := [some (rurf E 83), some (.int x1), some (.int x2), some (.int x3), none, none, none]) (by decide) rfl (Nat.le_of_ble_eq_true rfl) rfl ?_
  unfold fX11_isHeld at h
  refine ru_iconst (0 : Int32) ddX11_isHeld_0 rfl ?_
  refine ru_istore ddX11_isHeld_1 (by decide) rfl rfl ?_
  refine ru_iconst (0 : Int32) ddX11_isHeld_3 rfl ?_
  refine ru_istore ddX11_isHeld_4 (by decide) rfl rfl ?_
  exact wX11_isHeld_l6 hd x1 x2 x3 A (fun v10 h => by
        refine ru_iload ddX11_isHeld_99 rfl ?_
        obtain ⟨_, hz, h⟩ := ruB_inv h
        exact ru_zretP ddX11_isHeld_101 rfl (rubz_eq hz) h) ruF (0 : Int32) (0 : Int32) h
theorem wX11_gaps_l43 {E : ruE} {d : Nat} (hd : 3 ≤ d) {β : Type} {Q : Option Value → ruA → Prop} {res : β} (x1 : Int32) (x3 : Int32) (x4 : Int32) (A : ruA) {k83 : Int32 → Int32 → Option (β)} (hk83 : ∀ (x5 : Int32) (x6 : Int32), k83 x5 x6 = some res → ruW E mmX11_gaps d Q 83 [none, none, none, none, some (.int x4), some (.int x5), some (.int x6), none] [] A) : ∀ (n : Nat) (x5 : Int32) (x6 : Int32) (x7 : Int32), fX11_gaps_l43 x1 x3 x4 A k83 n x5 x6 x7 = some res → ruW E mmX11_gaps d Q 43 [some (rurf E 83), some (.int x1), none, some (.int x3), some (.int x4), some (.int x5), some (.int x6), some (.int x7)] [] A := by
  intro n
  induction n with
  | zero =>
    intro x5 x6 x7 h
    exact absurd h (by rw [fX11_gaps_l43]; exact fun h => nomatch h)
  | succ n ih =>
    intro x5 x6 x7 h
    rw [fX11_gaps_l43] at h
    refine ru_iload ddX11_gaps_43 rfl ?_
    refine ru_iload_n ddX11_gaps_45 rfl ?_
    refine ru_icmp_ge 83 ddX11_gaps_46 (by decide) (fun hc => ?_) (fun hc => ?_)
    · rw [if_pos hc] at h
      refine ru_wk (L2 := [none, none, none, none, some (.int x4), some (.int x5), some (.int x6), none]) ⟨rfl, rfl, rfl, trivial⟩ ?_
      exact hk83 x5 x6 h
    · rw [if_neg hc] at h
      refine ru_aload_n ddX11_gaps_49 rfl ?_
      refine ru_iconst (-1 : Int32) ddX11_gaps_50 rfl ?_
      refine ru_iload_n ddX11_gaps_51 rfl ?_
      refine ru_iload ddX11_gaps_52 rfl ?_
      obtain ⟨v8, hv, h⟩ := ruB_inv h
      refine ru_callVi (as := [.int (-1 : Int32), .int x1, .int x7]) (st := []) ddX11_gaps_54 cvX11_258 rfl (wX11_isHeld 1 (Nat.le_refl _) (-1 : Int32) x1 x7 A hv) rfl (Nat.le_trans (m := 3) (by decide) hd) (Nat.le_of_ble_eq_true rfl) ?_
      clear hv
      obtain ⟨v9, v10, hq, h⟩ := ruB2_inv h
      have J : ruW E mmX11_gaps d Q 77 [some (rurf E 83), some (.int x1), none, some (.int x3), some (.int x4), some (.int v9), some (.int v10), some (.int x7)] [] A := by
          refine ru_iinc (x7 + (1 : Int32)) ddX11_gaps_77 (by decide) rfl rfl rfl rfl ?_
          refine ru_goto 43 ddX11_gaps_80 (by decide) ?_
          exact ih v9 v10 (x7 + (1 : Int32)) h
      replace h := hq
      clear hq
      refine ru_if_ne 77 ddX11_gaps_57 (by decide) (fun hc => ?_) (fun hc => ?_)
      · rw [if_neg hc] at h
        refine ru_wk (L2 := [some (rurf E 83), some (.int x1), none, some (.int x3), some (.int x4), some (.int x5), some (.int x6), some (.int x7)]) ⟨rfl, rfl, rfl, rfl, rfl, rfl, rfl, trivial⟩ ?_
        obtain ⟨rfl, rfl⟩ := ruS2 h
        exact J
      · rw [if_pos hc] at h
        refine ru_iload ddX11_gaps_60 rfl ?_
        obtain ⟨v11, hq, h⟩ := ruB_inv h
        have J : ruW E mmX11_gaps d Q 72 [some (rurf E 83), some (.int x1), none, some (.int x3), some (.int x4), some (.int x5), none, some (.int x7)] [.int v11] A := by
            refine ru_istore ddX11_gaps_72 (by decide) rfl rfl ?_
            refine ru_iinc (x5 + (1 : Int32)) ddX11_gaps_74 (by decide) rfl rfl rfl rfl ?_
            refine ru_wk (L2 := [some (rurf E 83), some (.int x1), none, some (.int x3), some (.int x4), some (.int (x5 + (1 : Int32))), some (.int v11), some (.int x7)]) ⟨rfl, rfl, rfl, rfl, rfl, rfl, rfl, trivial⟩ ?_
            obtain ⟨rfl, rfl⟩ := ruS2 h
            exact J
        replace h := hq
        clear hq
        refine ru_if_ge 70 ddX11_gaps_62 (by decide) (fun hc => ?_) (fun hc => ?_)
        · rw [if_pos hc] at h
          refine ru_iload ddX11_gaps_70 rfl ?_
          refine ru_wk (L2 := [some (rurf E 83), some (.int x1), none, some (.int x3), some (.int x4), some (.int x5), none, some (.int x7)]) ⟨rfl, rfl, rfl, rfl, rfl, rfl, trivial⟩ ?_
          obtain rfl := ruS1 h
          exact J
        · rw [if_neg hc] at h
          refine ru_iload ddX11_gaps_65 rfl ?_
          refine ru_goto 72 ddX11_gaps_67 (by decide) ?_
          refine ru_wk (L2 := [some (rurf E 83), some (.int x1), none, some (.int x3), some (.int x4), some (.int x5), none, some (.int x7)]) ⟨rfl, rfl, rfl, rfl, rfl, rfl, trivial⟩ ?_
          obtain rfl := ruS1 h
          exact J
theorem wX11_gaps {E : ruE} (d : Nat) (hd : 3 ≤ d) (x1 : Int32) (x2 : Int32) (x3 : Int32) (x4 : Int32) (A : ruA) {r : Int32} {B : ruA} (h : fX11_gaps x1 x2 x3 x4 A = some (r, B)) : ruC E mmX11_gaps d [rurf E 83, .int x1, .int x2, .int x3, .int x4] A (ruPr r B) := by
  refine ruC.of (L := [some (rurf E 83), some (.int x1), some (.int x2), some (.int x3), some (.int x4), none, none, none]) (by decide) rfl (Nat.le_of_ble_eq_true rfl) rfl ?_
  unfold fX11_gaps at h
  refine ru_aload_n ddX11_gaps_0 rfl ?_
  refine ru_iload_n ddX11_gaps_1 rfl ?_
  refine ru_iconst (1 : Int32) ddX11_gaps_2 rfl ?_
  obtain ⟨v1, hv, h⟩ := ruB_inv h
  refine ru_callVi (as := [.int x1, .int (1 : Int32)]) (st := []) ddX11_gaps_3 cvX11_87 rfl (wX11_is 2 (Nat.le_refl _) x1 (1 : Int32) A hv) rfl (Nat.le_trans (m := 3) (by decide) hd) (Nat.le_of_ble_eq_true rfl) ?_
  clear hv
  refine ru_if_eq 27 ddX11_gaps_6 (by decide) (fun hc => ?_) (fun hc => ?_)
  · rw [if_pos hc] at h
    refine ru_aload_n ddX11_gaps_27 rfl ?_
    refine ru_ldc (v := (-1000001 : Int32)) ddX11_gaps_28 ckX11_65 ?_
    obtain ⟨v2, A3, hv, h⟩ := ruB2_inv h
    refine ru_callVi (as := [.int (-1000001 : Int32)]) (st := []) ddX11_gaps_30 cvX11_82 rfl (wX11_finding 1 (Nat.le_refl _) (-1000001 : Int32) A hv) rfl (Nat.le_trans (m := 3) (by decide) hd) (Nat.le_of_ble_eq_true rfl) ?_
    clear hv
    exact ru_iretW ddX11_gaps_33 rfl h
  · rw [if_neg hc] at h
    refine ru_iload_n ddX11_gaps_9 rfl ?_
    refine ru_iload_n ddX11_gaps_10 rfl ?_
    obtain ⟨v4, hv, h⟩ := ruB_inv h
    refine ru_callSi (as := [.int x2, .int x3]) (st := []) ddX11_gaps_11 csX11_255 (wX11_areHours 2 (Nat.le_refl _) x2 x3 A hv) rfl (Nat.le_trans (m := 3) (by decide) hd) (Nat.le_of_ble_eq_true rfl) ?_
    clear hv
    refine ru_if_eq 27 ddX11_gaps_14 (by decide) (fun hc => ?_) (fun hc => ?_)
    · rw [if_pos hc] at h
      refine ru_aload_n ddX11_gaps_27 rfl ?_
      refine ru_ldc (v := (-1000001 : Int32)) ddX11_gaps_28 ckX11_65 ?_
      obtain ⟨v5, A6, hv, h⟩ := ruB2_inv h
      refine ru_callVi (as := [.int (-1000001 : Int32)]) (st := []) ddX11_gaps_30 cvX11_82 rfl (wX11_finding 1 (Nat.le_refl _) (-1000001 : Int32) A hv) rfl (Nat.le_trans (m := 3) (by decide) hd) (Nat.le_of_ble_eq_true rfl) ?_
      clear hv
      exact ru_iretW ddX11_gaps_33 rfl h
    · rw [if_neg hc] at h
      refine ru_iload ddX11_gaps_17 rfl ?_
      refine ru_iconst (0 : Int32) ddX11_gaps_19 rfl ?_
      refine ru_iconst (1 : Int32) ddX11_gaps_20 rfl ?_
      obtain ⟨v7, hv, h⟩ := ruB_inv h
      refine ru_callSi (as := [.int x4, .int (0 : Int32), .int (1 : Int32)]) (st := []) ddX11_gaps_21 csX11_66 (wX11_within 1 (Nat.le_refl _) x4 (0 : Int32) (1 : Int32) A hv) rfl (Nat.le_trans (m := 3) (by decide) hd) (Nat.le_of_ble_eq_true rfl) ?_
      clear hv
      refine ru_if_ne 34 ddX11_gaps_24 (by decide) (fun hc => ?_) (fun hc => ?_)
      · rw [if_neg hc] at h
        refine ru_iconst (0 : Int32) ddX11_gaps_34 rfl ?_
        refine ru_istore ddX11_gaps_35 (by decide) rfl rfl ?_
        refine ru_iconst (-1 : Int32) ddX11_gaps_37 rfl ?_
        refine ru_istore ddX11_gaps_38 (by decide) rfl rfl ?_
        refine ru_iload_n ddX11_gaps_40 rfl ?_
        refine ru_istore ddX11_gaps_41 (by decide) rfl rfl ?_
        refine ru_wk (L2 := [some (rurf E 83), some (.int x1), none, some (.int x3), some (.int x4), some (.int (0 : Int32)), some (.int (-1 : Int32)), some (.int x2)]) ⟨rfl, rfl, rfl, rfl, rfl, rfl, rfl, trivial⟩ ?_
        exact wX11_gaps_l43 hd x1 x3 x4 A (fun v12 v13 h => by
              refine ru_iload ddX11_gaps_83 rfl ?_
              refine ru_if_ne 93 ddX11_gaps_85 (by decide) (fun hc => ?_) (fun hc => ?_)
              · rw [if_neg hc] at h
                refine ru_iload ddX11_gaps_93 rfl ?_
                exact ru_iretW ddX11_gaps_95 rfl h
              · rw [if_pos hc] at h
                refine ru_iload ddX11_gaps_88 rfl ?_
                refine ru_goto 95 ddX11_gaps_90 (by decide) ?_
                exact ru_iretW ddX11_gaps_95 rfl h) ruF (0 : Int32) (-1 : Int32) x2 h
      · rw [if_pos hc] at h
        refine ru_aload_n ddX11_gaps_27 rfl ?_
        refine ru_ldc (v := (-1000001 : Int32)) ddX11_gaps_28 ckX11_65 ?_
        obtain ⟨v14, A15, hv, h⟩ := ruB2_inv h
        refine ru_callVi (as := [.int (-1000001 : Int32)]) (st := []) ddX11_gaps_30 cvX11_82 rfl (wX11_finding 1 (Nat.le_refl _) (-1000001 : Int32) A hv) rfl (Nat.le_trans (m := 3) (by decide) hd) (Nat.le_of_ble_eq_true rfl) ?_
        clear hv
        exact ru_iretW ddX11_gaps_33 rfl h
theorem wX11_could_l54 {E : ruE} {d : Nat} (hd : 3 ≤ d) {β : Type} {Q : Option Value → ruA → Prop} {res : β} (x1 : Int32) (x2 : Int32) (x3 : Int32) (x4 : Int32) (x5 : Int32) (x6 : Int32) (A : ruA) {k88 : Int32 → Option (β)} (hk88 : ∀ (x7 : Int32), k88 x7 = some res → ruW E mmX11_could d Q 88 [some (rurf E 83), some (.int x1), some (.int x2), some (.int x3), some (.int x4), some (.int x5), some (.int x6), some (.int x7), none] [] A) : ∀ (n : Nat) (x7 : Int32) (x8 : Int32), fX11_could_l54 x1 x2 x3 x4 x5 x6 A k88 n x7 x8 = some res → ruW E mmX11_could d Q 54 [some (rurf E 83), some (.int x1), some (.int x2), some (.int x3), some (.int x4), some (.int x5), some (.int x6), some (.int x7), some (.int x8)] [] A := by
  intro n
  induction n with
  | zero =>
    intro x7 x8 h
    exact absurd h (by rw [fX11_could_l54]; exact fun h => nomatch h)
  | succ n ih =>
    intro x7 x8 h
    rw [fX11_could_l54] at h
    refine ru_iload ddX11_could_54 rfl ?_
    refine ru_iload_n ddX11_could_56 rfl ?_
    refine ru_icmp_ge 88 ddX11_could_57 (by decide) (fun hc => ?_) (fun hc => ?_)
    · rw [if_pos hc] at h
      refine ru_wk (L2 := [some (rurf E 83), some (.int x1), some (.int x2), some (.int x3), some (.int x4), some (.int x5), some (.int x6), some (.int x7), none]) ⟨rfl, rfl, rfl, rfl, rfl, rfl, rfl, rfl, trivial⟩ ?_
      exact hk88 x7 h
    · rw [if_neg hc] at h
      refine ru_iload ddX11_could_60 rfl ?_
      refine ru_aload_n ddX11_could_62 rfl ?_
      refine ru_iload ddX11_could_63 rfl ?_
      refine ru_iload_n ddX11_could_65 rfl ?_
      refine ru_iload ddX11_could_66 rfl ?_
      obtain ⟨v8, hv, h⟩ := ruB_inv h
      refine ru_callVi (as := [.int x6, .int x1, .int x8]) (st := [.int x7]) ddX11_could_68 cvX11_258 rfl (wX11_isHeld 1 (Nat.le_refl _) x6 x1 x8 A hv) rfl (Nat.le_trans (m := 3) (by decide) hd) (Nat.le_of_ble_eq_true rfl) ?_
      clear hv
      obtain ⟨v9, hq, h⟩ := ruB_inv h
      have J : ruW E mmX11_could d Q 79 [some (rurf E 83), some (.int x1), some (.int x2), some (.int x3), some (.int x4), some (.int x5), some (.int x6), none, some (.int x8)] [.int v9, .int x7] A := by
          refine ru_iadd ddX11_could_79 ?_
          refine ru_istore ddX11_could_80 (by decide) rfl rfl ?_
          refine ru_iinc (x8 + (1 : Int32)) ddX11_could_82 (by decide) rfl rfl rfl rfl ?_
          refine ru_goto 54 ddX11_could_85 (by decide) ?_
          exact ih (x7 + v9) (x8 + (1 : Int32)) h
      replace h := hq
      clear hq
      refine ru_if_eq 78 ddX11_could_71 (by decide) (fun hc => ?_) (fun hc => ?_)
      · rw [if_pos hc] at h
        refine ru_iconst (0 : Int32) ddX11_could_78 rfl ?_
        refine ru_wk (L2 := [some (rurf E 83), some (.int x1), some (.int x2), some (.int x3), some (.int x4), some (.int x5), some (.int x6), none, some (.int x8)]) ⟨rfl, rfl, rfl, rfl, rfl, rfl, rfl, rfl, trivial⟩ ?_
        obtain rfl := ruS1 h
        exact J
      · rw [if_neg hc] at h
        refine ru_iconst (1 : Int32) ddX11_could_74 rfl ?_
        refine ru_goto 79 ddX11_could_75 (by decide) ?_
        refine ru_wk (L2 := [some (rurf E 83), some (.int x1), some (.int x2), some (.int x3), some (.int x4), some (.int x5), some (.int x6), none, some (.int x8)]) ⟨rfl, rfl, rfl, rfl, rfl, rfl, rfl, rfl, trivial⟩ ?_
        obtain rfl := ruS1 h
        exact J
theorem wX11_could_l41 {E : ruE} {d : Nat} (hd : 3 ≤ d) {β : Type} {Q : Option Value → ruA → Prop} {res : β} (x1 : Int32) (x2 : Int32) (x3 : Int32) (x4 : Int32) (A : ruA) {k114 : Int32 → Option (β)} (hk114 : ∀ (x5 : Int32), k114 x5 = some res → ruW E mmX11_could d Q 114 [none, none, none, none, none, some (.int x5), none, none, none] [] A) : ∀ (n : Nat) (x5 : Int32) (x6 : Int32), fX11_could_l41 x1 x2 x3 x4 A k114 n x5 x6 = some res → ruW E mmX11_could d Q 41 [some (rurf E 83), some (.int x1), some (.int x2), some (.int x3), some (.int x4), some (.int x5), some (.int x6), none, none] [] A := by
  intro n
  induction n with
  | zero =>
    intro x5 x6 h
    exact absurd h (by rw [fX11_could_l41]; exact fun h => nomatch h)
  | succ n ih =>
    intro x5 x6 h
    rw [fX11_could_l41] at h
    refine ru_iload ddX11_could_41 rfl ?_
    refine ru_bipush (10 : Int32) ddX11_could_43 rfl ?_
    refine ru_icmp_ge 114 ddX11_could_45 (by decide) (fun hc => ?_) (fun hc => ?_)
    · rw [if_pos hc] at h
      refine ru_wk (L2 := [none, none, none, none, none, some (.int x5), none, none, none]) ⟨rfl, trivial⟩ ?_
      exact hk114 x5 h
    · rw [if_neg hc] at h
      refine ru_iconst (0 : Int32) ddX11_could_48 rfl ?_
      refine ru_istore ddX11_could_49 (by decide) rfl rfl ?_
      refine ru_iload_n ddX11_could_51 rfl ?_
      refine ru_istore ddX11_could_52 (by decide) rfl rfl ?_
      exact wX11_could_l54 hd x1 x2 x3 x4 x5 x6 A (fun v10 h => by
            refine ru_iload ddX11_could_88 rfl ?_
            refine ru_iload ddX11_could_90 rfl ?_
            refine ru_iload ddX11_could_92 rfl ?_
            obtain ⟨v11, hq, h⟩ := ruB_inv h
            have J : ruW E mmX11_could d Q 105 [some (rurf E 83), some (.int x1), some (.int x2), some (.int x3), some (.int x4), none, some (.int x6), none, none] [.int v11, .int x5] A := by
                refine ru_ior ddX11_could_105 ?_
                refine ru_istore ddX11_could_106 (by decide) rfl rfl ?_
                refine ru_iinc (x6 + (1 : Int32)) ddX11_could_108 (by decide) rfl rfl rfl rfl ?_
                refine ru_goto 41 ddX11_could_111 (by decide) ?_
                exact ih (x5 ||| v11) (x6 + (1 : Int32)) h
            replace h := hq
            clear hq
            refine ru_icmp_lt 104 ddX11_could_94 (by decide) (fun hc => ?_) (fun hc => ?_)
            · rw [if_pos hc] at h
              refine ru_iconst (0 : Int32) ddX11_could_104 rfl ?_
              refine ru_wk (L2 := [some (rurf E 83), some (.int x1), some (.int x2), some (.int x3), some (.int x4), none, some (.int x6), none, none]) ⟨rfl, rfl, rfl, rfl, rfl, rfl, trivial⟩ ?_
              obtain rfl := ruS1 h
              exact J
            · rw [if_neg hc] at h
              refine ru_iconst (1 : Int32) ddX11_could_97 rfl ?_
              refine ru_iload ddX11_could_98 rfl ?_
              refine ru_ishl ddX11_could_100 ?_
              refine ru_goto 105 ddX11_could_101 (by decide) ?_
              refine ru_wk (L2 := [some (rurf E 83), some (.int x1), some (.int x2), some (.int x3), some (.int x4), none, some (.int x6), none, none]) ⟨rfl, rfl, rfl, rfl, rfl, rfl, trivial⟩ ?_
              obtain rfl := ruS1 h
              exact J) ruF (0 : Int32) x2 h
theorem wX11_could {E : ruE} (d : Nat) (hd : 3 ≤ d) (x1 : Int32) (x2 : Int32) (x3 : Int32) (x4 : Int32) (A : ruA) {r : Int32} {B : ruA} (h : fX11_could x1 x2 x3 x4 A = some (r, B)) : ruC E mmX11_could d [rurf E 83, .int x1, .int x2, .int x3, .int x4] A (ruPr r B) := by
  refine ruC.of (L := [some (rurf E 83), some (.int x1), some (.int x2), some (.int x3), some (.int x4), none, none, none, none]) (by decide) rfl (Nat.le_of_ble_eq_true rfl) rfl ?_
  unfold fX11_could at h
  refine ru_aload_n ddX11_could_0 rfl ?_
  refine ru_iload_n ddX11_could_1 rfl ?_
  refine ru_iconst (1 : Int32) ddX11_could_2 rfl ?_
  obtain ⟨v1, hv, h⟩ := ruB_inv h
  refine ru_callVi (as := [.int x1, .int (1 : Int32)]) (st := []) ddX11_could_3 cvX11_87 rfl (wX11_is 2 (Nat.le_refl _) x1 (1 : Int32) A hv) rfl (Nat.le_trans (m := 3) (by decide) hd) (Nat.le_of_ble_eq_true rfl) ?_
  clear hv
  refine ru_if_eq 28 ddX11_could_6 (by decide) (fun hc => ?_) (fun hc => ?_)
  · rw [if_pos hc] at h
    refine ru_aload_n ddX11_could_28 rfl ?_
    refine ru_ldc (v := (-1000001 : Int32)) ddX11_could_29 ckX11_65 ?_
    obtain ⟨v2, A3, hv, h⟩ := ruB2_inv h
    refine ru_callVi (as := [.int (-1000001 : Int32)]) (st := []) ddX11_could_31 cvX11_82 rfl (wX11_finding 1 (Nat.le_refl _) (-1000001 : Int32) A hv) rfl (Nat.le_trans (m := 3) (by decide) hd) (Nat.le_of_ble_eq_true rfl) ?_
    clear hv
    exact ru_iretW ddX11_could_34 rfl h
  · rw [if_neg hc] at h
    refine ru_iload_n ddX11_could_9 rfl ?_
    refine ru_iload_n ddX11_could_10 rfl ?_
    obtain ⟨v4, hv, h⟩ := ruB_inv h
    refine ru_callSi (as := [.int x2, .int x3]) (st := []) ddX11_could_11 csX11_255 (wX11_areHours 2 (Nat.le_refl _) x2 x3 A hv) rfl (Nat.le_trans (m := 3) (by decide) hd) (Nat.le_of_ble_eq_true rfl) ?_
    clear hv
    refine ru_if_eq 28 ddX11_could_14 (by decide) (fun hc => ?_) (fun hc => ?_)
    · rw [if_pos hc] at h
      refine ru_aload_n ddX11_could_28 rfl ?_
      refine ru_ldc (v := (-1000001 : Int32)) ddX11_could_29 ckX11_65 ?_
      obtain ⟨v5, A6, hv, h⟩ := ruB2_inv h
      refine ru_callVi (as := [.int (-1000001 : Int32)]) (st := []) ddX11_could_31 cvX11_82 rfl (wX11_finding 1 (Nat.le_refl _) (-1000001 : Int32) A hv) rfl (Nat.le_trans (m := 3) (by decide) hd) (Nat.le_of_ble_eq_true rfl) ?_
      clear hv
      exact ru_iretW ddX11_could_34 rfl h
    · rw [if_neg hc] at h
      refine ru_iload ddX11_could_17 rfl ?_
      refine ru_iconst (1 : Int32) ddX11_could_19 rfl ?_
      refine ru_bipush (99 : Int32) ddX11_could_20 rfl ?_
      obtain ⟨v7, hv, h⟩ := ruB_inv h
      refine ru_callSi (as := [.int x4, .int (1 : Int32), .int (99 : Int32)]) (st := []) ddX11_could_22 csX11_66 (wX11_within 1 (Nat.le_refl _) x4 (1 : Int32) (99 : Int32) A hv) rfl (Nat.le_trans (m := 3) (by decide) hd) (Nat.le_of_ble_eq_true rfl) ?_
      clear hv
      refine ru_if_ne 35 ddX11_could_25 (by decide) (fun hc => ?_) (fun hc => ?_)
      · rw [if_neg hc] at h
        refine ru_iconst (0 : Int32) ddX11_could_35 rfl ?_
        refine ru_istore ddX11_could_36 (by decide) rfl rfl ?_
        refine ru_iconst (0 : Int32) ddX11_could_38 rfl ?_
        refine ru_istore ddX11_could_39 (by decide) rfl rfl ?_
        exact wX11_could_l41 hd x1 x2 x3 x4 A (fun v12 h => by
              refine ru_iload ddX11_could_114 rfl ?_
              exact ru_iretW ddX11_could_116 rfl h) ruF (0 : Int32) (0 : Int32) h
      · rw [if_pos hc] at h
        refine ru_aload_n ddX11_could_28 rfl ?_
        refine ru_ldc (v := (-1000001 : Int32)) ddX11_could_29 ckX11_65 ?_
        obtain ⟨v13, A14, hv, h⟩ := ruB2_inv h
        refine ru_callVi (as := [.int (-1000001 : Int32)]) (st := []) ddX11_could_31 cvX11_82 rfl (wX11_finding 1 (Nat.le_refl _) (-1000001 : Int32) A hv) rfl (Nat.le_trans (m := 3) (by decide) hd) (Nat.le_of_ble_eq_true rfl) ?_
        clear hv
        exact ru_iretW ddX11_could_34 rfl h
theorem wX11_form {E : ruE} (d : Nat) (hd : 2 ≤ d) (x1 : Int32) (x2 : Int32) (A : ruA) {r : Int32} {B : ruA} (h : fX11_form x1 x2 A = some (r, B)) : ruC E mmX11_form d [rurf E 83, .int x1, .int x2] A (ruPr r B) := by
  refine ruC.of (L := [some (rurf E 83), some (.int x1), some (.int x2), none]) (by decide) rfl (Nat.le_of_ble_eq_true rfl) rfl ?_
  unfold fX11_form at h
  refine ru_iload_n ddX11_form_0 rfl ?_
  refine ru_iconst (0 : Int32) ddX11_form_1 rfl ?_
  refine ru_bipush (99 : Int32) ddX11_form_2 rfl ?_
  obtain ⟨v1, hv, h⟩ := ruB_inv h
  refine ru_callSi (as := [.int x1, .int (0 : Int32), .int (99 : Int32)]) (st := []) ddX11_form_4 csX11_66 (wX11_within 1 (Nat.le_refl _) x1 (0 : Int32) (99 : Int32) A hv) rfl (Nat.le_trans (m := 2) (by decide) hd) (Nat.le_of_ble_eq_true rfl) ?_
  clear hv
  refine ru_if_eq 21 ddX11_form_7 (by decide) (fun hc => ?_) (fun hc => ?_)
  · rw [if_pos hc] at h
    refine ru_aload_n ddX11_form_21 rfl ?_
    refine ru_ldc (v := (-1000001 : Int32)) ddX11_form_22 ckX11_65 ?_
    obtain ⟨v2, A3, hv, h⟩ := ruB2_inv h
    refine ru_callVi (as := [.int (-1000001 : Int32)]) (st := []) ddX11_form_24 cvX11_82 rfl (wX11_finding 1 (Nat.le_refl _) (-1000001 : Int32) A hv) rfl (Nat.le_trans (m := 2) (by decide) hd) (Nat.le_of_ble_eq_true rfl) ?_
    clear hv
    exact ru_iretW ddX11_form_27 rfl h
  · rw [if_neg hc] at h
    refine ru_iload_n ddX11_form_10 rfl ?_
    refine ru_iconst (0 : Int32) ddX11_form_11 rfl ?_
    refine ru_sipush (255 : Int32) ddX11_form_12 rfl ?_
    obtain ⟨v4, hv, h⟩ := ruB_inv h
    refine ru_callSi (as := [.int x2, .int (0 : Int32), .int (255 : Int32)]) (st := []) ddX11_form_15 csX11_66 (wX11_within 1 (Nat.le_refl _) x2 (0 : Int32) (255 : Int32) A hv) rfl (Nat.le_trans (m := 2) (by decide) hd) (Nat.le_of_ble_eq_true rfl) ?_
    clear hv
    refine ru_if_ne 28 ddX11_form_18 (by decide) (fun hc => ?_) (fun hc => ?_)
    · rw [if_neg hc] at h
      refine ru_aload_n ddX11_form_28 rfl ?_
      refine ru_getR (r := 84) ddX11_form_29 flX11_9 rfl rfl ?_
      refine ru_iconst (5 : Int32) ddX11_form_32 rfl ?_
      obtain ⟨v5, hv, h⟩ := ruB_inv h
      refine ru_iald ddX11_form_33 rfl hv ?_
      clear hv
      refine ru_istore_n ddX11_form_34 (by decide) rfl rfl ?_
      refine ru_iload_n ddX11_form_35 rfl ?_
      refine ru_bipush (8 : Int32) ddX11_form_36 rfl ?_
      refine ru_icmp_ne 48 ddX11_form_38 (by decide) (fun hc => ?_) (fun hc => ?_)
      · rw [if_neg hc] at h
        refine ru_aload_n ddX11_form_48 rfl ?_
        refine ru_getR (r := 84) ddX11_form_49 flX11_9 rfl rfl ?_
        refine ru_sipush (4904 : Int32) ddX11_form_52 rfl ?_
        refine ru_iconst (2 : Int32) ddX11_form_55 rfl ?_
        refine ru_iload_n ddX11_form_56 rfl ?_
        refine ru_imul ddX11_form_57 ?_
        refine ru_iadd ddX11_form_58 ?_
        refine ru_iload_n ddX11_form_59 rfl ?_
        obtain ⟨A6, hv, h⟩ := ruB_inv h
        refine ru_iast ddX11_form_60 rfl hv ?_
        clear hv
        refine ru_aload_n ddX11_form_61 rfl ?_
        refine ru_getR (r := 84) ddX11_form_62 flX11_9 rfl rfl ?_
        refine ru_sipush (4904 : Int32) ddX11_form_65 rfl ?_
        refine ru_iconst (2 : Int32) ddX11_form_68 rfl ?_
        refine ru_iload_n ddX11_form_69 rfl ?_
        refine ru_imul ddX11_form_70 ?_
        refine ru_iadd ddX11_form_71 ?_
        refine ru_iconst (1 : Int32) ddX11_form_72 rfl ?_
        refine ru_iadd ddX11_form_73 ?_
        refine ru_iload_n ddX11_form_74 rfl ?_
        obtain ⟨A7, hv, h⟩ := ruB_inv h
        refine ru_iast ddX11_form_75 rfl hv ?_
        clear hv
        refine ru_aload_n ddX11_form_76 rfl ?_
        refine ru_getR (r := 84) ddX11_form_77 flX11_9 rfl rfl ?_
        refine ru_iconst (5 : Int32) ddX11_form_80 rfl ?_
        refine ru_dup2 ddX11_form_81 rfl rfl ?_
        obtain ⟨v8, hv, h⟩ := ruB_inv h
        refine ru_iald ddX11_form_82 rfl hv ?_
        clear hv
        refine ru_iconst (1 : Int32) ddX11_form_83 rfl ?_
        refine ru_iadd ddX11_form_84 ?_
        obtain ⟨A9, hv, h⟩ := ruB_inv h
        refine ru_iast ddX11_form_85 rfl hv ?_
        clear hv
        refine ru_iload_n ddX11_form_86 rfl ?_
        exact ru_iretW ddX11_form_87 rfl h
      · rw [if_pos hc] at h
        refine ru_aload_n ddX11_form_41 rfl ?_
        refine ru_ldc (v := (-1000002 : Int32)) ddX11_form_42 ckX11_86 ?_
        obtain ⟨v10, A11, hv, h⟩ := ruB2_inv h
        refine ru_callVi (as := [.int (-1000002 : Int32)]) (st := []) ddX11_form_44 cvX11_82 rfl (wX11_finding 1 (Nat.le_refl _) (-1000002 : Int32) A hv) rfl (Nat.le_trans (m := 2) (by decide) hd) (Nat.le_of_ble_eq_true rfl) ?_
        clear hv
        exact ru_iretW ddX11_form_47 rfl h
    · rw [if_pos hc] at h
      refine ru_aload_n ddX11_form_21 rfl ?_
      refine ru_ldc (v := (-1000001 : Int32)) ddX11_form_22 ckX11_65 ?_
      obtain ⟨v12, A13, hv, h⟩ := ruB2_inv h
      refine ru_callVi (as := [.int (-1000001 : Int32)]) (st := []) ddX11_form_24 cvX11_82 rfl (wX11_finding 1 (Nat.le_refl _) (-1000001 : Int32) A hv) rfl (Nat.le_trans (m := 2) (by decide) hd) (Nat.le_of_ble_eq_true rfl) ?_
      clear hv
      exact ru_iretW ddX11_form_27 rfl h
theorem wX11_isBarred_l5 {E : ruE} {d : Nat} (hd : 2 ≤ d) {β : Type} {Q : Option Value → ruA → Prop} {res : β} (x2 : Int32) (A : ruA) {k39 : Int32 → Option (β)} (hk39 : ∀ (x3 : Int32), k39 x3 = some res → ruW E mmX11_isBarred d Q 39 [none, none, none, some (.int x3), none] [] A) : ∀ (n : Nat) (x3 : Int32) (x4 : Int32), fX11_isBarred_l5 x2 k39 n x3 x4 = some res → ruW E mmX11_isBarred d Q 5 [none, none, some (.int x2), some (.int x3), some (.int x4)] [] A := by
  intro n
  induction n with
  | zero =>
    intro x3 x4 h
    exact absurd h (by rw [fX11_isBarred_l5]; exact fun h => nomatch h)
  | succ n ih =>
    intro x3 x4 h
    rw [fX11_isBarred_l5] at h
    refine ru_iload ddX11_isBarred_5 rfl ?_
    refine ru_if_lt 39 ddX11_isBarred_7 (by decide) (fun hc => ?_) (fun hc => ?_)
    · rw [if_pos hc] at h
      refine ru_wk (L2 := [none, none, none, some (.int x3), none]) ⟨rfl, trivial⟩ ?_
      exact hk39 x3 h
    · rw [if_neg hc] at h
      refine ru_iload_n ddX11_isBarred_10 rfl ?_
      obtain ⟨v1, hq, h⟩ := ruB_inv h
      have J : ruW E mmX11_isBarred d Q 28 [none, none, some (.int x2), none, some (.int x4)] [.int v1] A := by
          refine ru_istore_n ddX11_isBarred_28 (by decide) rfl rfl ?_
          refine ru_iload ddX11_isBarred_29 rfl ?_
          obtain ⟨v3, hv, h⟩ := ruB_inv h
          refine ru_callSi (as := [.int x4]) (st := []) ddX11_isBarred_31 csX11_143 (wX11_above 1 (Nat.le_refl _) x4 A hv) rfl (Nat.le_trans (m := 2) (by decide) hd) (Nat.le_of_ble_eq_true rfl) ?_
          clear hv
          refine ru_istore ddX11_isBarred_34 (by decide) rfl rfl ?_
          refine ru_goto 5 ddX11_isBarred_36 (by decide) ?_
          exact ih v1 v3 h
      replace h := hq
      clear hq
      refine ru_if_ne 23 ddX11_isBarred_11 (by decide) (fun hc => ?_) (fun hc => ?_)
      · rw [if_neg hc] at h
        refine ru_iconst (1 : Int32) ddX11_isBarred_23 rfl ?_
        refine ru_goto 28 ddX11_isBarred_24 (by decide) ?_
        refine ru_wk (L2 := [none, none, some (.int x2), none, some (.int x4)]) ⟨rfl, rfl, trivial⟩ ?_
        obtain rfl := ruS1 h
        exact J
      · rw [if_pos hc] at h
        refine ru_iload_n ddX11_isBarred_14 rfl ?_
        refine ru_iload ddX11_isBarred_15 rfl ?_
        obtain ⟨v2, hv, h⟩ := ruB_inv h
        refine ru_callSi (as := [.int x2, .int x4]) (st := []) ddX11_isBarred_17 csX11_95 (wX11_has 1 (Nat.le_refl _) x2 x4 A hv) rfl (Nat.le_trans (m := 2) (by decide) hd) (Nat.le_of_ble_eq_true rfl) ?_
        clear hv
        refine ru_if_eq 27 ddX11_isBarred_20 (by decide) (fun hc => ?_) (fun hc => ?_)
        · rw [if_pos hc] at h
          refine ru_iconst (0 : Int32) ddX11_isBarred_27 rfl ?_
          refine ru_wk (L2 := [none, none, some (.int x2), none, some (.int x4)]) ⟨rfl, rfl, trivial⟩ ?_
          obtain rfl := ruS1 h
          exact J
        · rw [if_neg hc] at h
          refine ru_iconst (1 : Int32) ddX11_isBarred_23 rfl ?_
          refine ru_goto 28 ddX11_isBarred_24 (by decide) ?_
          refine ru_wk (L2 := [none, none, some (.int x2), none, some (.int x4)]) ⟨rfl, rfl, trivial⟩ ?_
          obtain rfl := ruS1 h
          exact J
theorem wX11_isBarred {E : ruE} (d : Nat) (hd : 2 ≤ d) (x1 : Int32) (x2 : Int32) (A : ruA) {r : Int32} (h : fX11_isBarred x1 x2 = some r) : ruC E mmX11_isBarred d [rurf E 83, .int x1, .int x2] A (ruPr r A) := by
  refine ruC.of (L := [some (rurf E 83), some (.int x1), some (.int x2), none, none]) (by decide) rfl (Nat.le_of_ble_eq_true rfl) rfl ?_
  unfold fX11_isBarred at h
  refine ru_iconst (0 : Int32) ddX11_isBarred_0 rfl ?_
  refine ru_istore_n ddX11_isBarred_1 (by decide) rfl rfl ?_
  refine ru_iload_n ddX11_isBarred_2 rfl ?_
  refine ru_istore ddX11_isBarred_3 (by decide) rfl rfl ?_
  refine ru_wk (L2 := [none, none, some (.int x2), some (.int (0 : Int32)), some (.int x1)]) ⟨rfl, rfl, rfl, trivial⟩ ?_
  exact wX11_isBarred_l5 hd x2 A (fun v4 h => by
        refine ru_iload_n ddX11_isBarred_39 rfl ?_
        obtain ⟨_, hz, h⟩ := ruB_inv h
        exact ru_zretP ddX11_isBarred_40 rfl (rubz_eq hz) h) ruF (0 : Int32) x1 h
theorem wX11_cheapest_l57 {E : ruE} {d : Nat} (hd : 3 ≤ d) {β : Type} {Q : Option Value → ruA → Prop} {res : β} (x1 : Int32) (x2 : Int32) (x3 : Int32) (x4 : Int32) (x5 : Int32) (A : ruA) {k140 : Int32 → Int32 → Option (β)} (hk140 : ∀ (x6 : Int32) (x7 : Int32), k140 x6 x7 = some res → ruW E mmX11_cheapest d Q 140 [some (rurf E 83), some (.int x1), some (.int x2), some (.int x3), some (.int x4), some (.int x5), some (.int x6), some (.int x7), none, none] [] A) : ∀ (n : Nat) (x6 : Int32) (x7 : Int32) (x8 : Int32), fX11_cheapest_l57 x1 x2 x3 x4 x5 A k140 n x6 x7 x8 = some res → ruW E mmX11_cheapest d Q 57 [some (rurf E 83), some (.int x1), some (.int x2), some (.int x3), some (.int x4), some (.int x5), some (.int x6), some (.int x7), some (.int x8), none] [] A := by
  intro n
  induction n with
  | zero =>
    intro x6 x7 x8 h
    exact absurd h (by rw [fX11_cheapest_l57]; exact fun h => nomatch h)
  | succ n ih =>
    intro x6 x7 x8 h
    rw [fX11_cheapest_l57] at h
    refine ru_iload ddX11_cheapest_57 rfl ?_
    refine ru_aload_n ddX11_cheapest_59 rfl ?_
    refine ru_getR (r := 84) ddX11_cheapest_60 flX11_9 rfl rfl ?_
    refine ru_iconst (5 : Int32) ddX11_cheapest_63 rfl ?_
    obtain ⟨v6, hv, h⟩ := ruB_inv h
    refine ru_iald ddX11_cheapest_64 rfl hv ?_
    clear hv
    refine ru_icmp_ge 140 ddX11_cheapest_65 (by decide) (fun hc => ?_) (fun hc => ?_)
    · rw [if_pos hc] at h
      refine ru_wk (L2 := [some (rurf E 83), some (.int x1), some (.int x2), some (.int x3), some (.int x4), some (.int x5), some (.int x6), some (.int x7), none, none]) ⟨rfl, rfl, rfl, rfl, rfl, rfl, rfl, rfl, trivial⟩ ?_
      exact hk140 x6 x7 h
    · rw [if_neg hc] at h
      refine ru_iload ddX11_cheapest_68 rfl ?_
      refine ru_iload ddX11_cheapest_70 rfl ?_
      refine ru_iload ddX11_cheapest_72 rfl ?_
      obtain ⟨v7, hv, h⟩ := ruB_inv h
      refine ru_callSi (as := [.int x5, .int x8]) (st := [.int x6]) ddX11_cheapest_74 csX11_95 (wX11_has 1 (Nat.le_refl _) x5 x8 A hv) rfl (Nat.le_trans (m := 3) (by decide) hd) (Nat.le_of_ble_eq_true rfl) ?_
      clear hv
      obtain ⟨v8, hq, h⟩ := ruB_inv h
      have J : ruW E mmX11_cheapest d Q 99 [some (rurf E 83), some (.int x1), some (.int x2), some (.int x3), some (.int x4), some (.int x5), none, some (.int x7), some (.int x8), none] [.int v8, .int x6] A := by
          refine ru_ior ddX11_cheapest_99 ?_
          refine ru_istore ddX11_cheapest_100 (by decide) rfl rfl ?_
          refine ru_iload ddX11_cheapest_102 rfl ?_
          refine ru_iload ddX11_cheapest_104 rfl ?_
          refine ru_iload ddX11_cheapest_106 rfl ?_
          obtain ⟨v10, hv, h⟩ := ruB_inv h
          refine ru_callSi (as := [.int x5, .int x8]) (st := [.int x7]) ddX11_cheapest_108 csX11_95 (wX11_has 1 (Nat.le_refl _) x5 x8 A hv) rfl (Nat.le_trans (m := 3) (by decide) hd) (Nat.le_of_ble_eq_true rfl) ?_
          clear hv
          obtain ⟨v11, hq, h⟩ := ruB_inv h
          have J : ruW E mmX11_cheapest d Q 131 [some (rurf E 83), some (.int x1), some (.int x2), some (.int x3), some (.int x4), some (.int x5), some (.int (x6 ||| v8)), none, some (.int x8), none] [.int v11, .int x7] A := by
              refine ru_iadd ddX11_cheapest_131 ?_
              refine ru_istore ddX11_cheapest_132 (by decide) rfl rfl ?_
              refine ru_iinc (x8 + (1 : Int32)) ddX11_cheapest_134 (by decide) rfl rfl rfl rfl ?_
              refine ru_goto 57 ddX11_cheapest_137 (by decide) ?_
              exact ih (x6 ||| v8) (x7 + v11) (x8 + (1 : Int32)) h
          replace h := hq
          clear hq
          refine ru_if_eq 130 ddX11_cheapest_111 (by decide) (fun hc => ?_) (fun hc => ?_)
          · rw [if_pos hc] at h
            refine ru_iconst (0 : Int32) ddX11_cheapest_130 rfl ?_
            refine ru_wk (L2 := [some (rurf E 83), some (.int x1), some (.int x2), some (.int x3), some (.int x4), some (.int x5), some (.int (x6 ||| v8)), none, some (.int x8), none]) ⟨rfl, rfl, rfl, rfl, rfl, rfl, rfl, rfl, trivial⟩ ?_
            obtain rfl := ruS1 h
            exact J
          · rw [if_neg hc] at h
            refine ru_aload_n ddX11_cheapest_114 rfl ?_
            refine ru_getR (r := 84) ddX11_cheapest_115 flX11_9 rfl rfl ?_
            refine ru_sipush (4904 : Int32) ddX11_cheapest_118 rfl ?_
            refine ru_iconst (2 : Int32) ddX11_cheapest_121 rfl ?_
            refine ru_iload ddX11_cheapest_122 rfl ?_
            refine ru_imul ddX11_cheapest_124 ?_
            refine ru_iadd ddX11_cheapest_125 ?_
            obtain ⟨v12, hv, h⟩ := ruB_inv h
            refine ru_iald ddX11_cheapest_126 rfl hv ?_
            clear hv
            refine ru_goto 131 ddX11_cheapest_127 (by decide) ?_
            refine ru_wk (L2 := [some (rurf E 83), some (.int x1), some (.int x2), some (.int x3), some (.int x4), some (.int x5), some (.int (x6 ||| v8)), none, some (.int x8), none]) ⟨rfl, rfl, rfl, rfl, rfl, rfl, rfl, rfl, trivial⟩ ?_
            obtain rfl := ruS1 h
            exact J
      replace h := hq
      clear hq
      refine ru_if_eq 98 ddX11_cheapest_77 (by decide) (fun hc => ?_) (fun hc => ?_)
      · rw [if_pos hc] at h
        refine ru_iconst (0 : Int32) ddX11_cheapest_98 rfl ?_
        refine ru_wk (L2 := [some (rurf E 83), some (.int x1), some (.int x2), some (.int x3), some (.int x4), some (.int x5), none, some (.int x7), some (.int x8), none]) ⟨rfl, rfl, rfl, rfl, rfl, rfl, rfl, rfl, trivial⟩ ?_
        obtain rfl := ruS1 h
        exact J
      · rw [if_neg hc] at h
        refine ru_aload_n ddX11_cheapest_80 rfl ?_
        refine ru_getR (r := 84) ddX11_cheapest_81 flX11_9 rfl rfl ?_
        refine ru_sipush (4904 : Int32) ddX11_cheapest_84 rfl ?_
        refine ru_iconst (2 : Int32) ddX11_cheapest_87 rfl ?_
        refine ru_iload ddX11_cheapest_88 rfl ?_
        refine ru_imul ddX11_cheapest_90 ?_
        refine ru_iadd ddX11_cheapest_91 ?_
        refine ru_iconst (1 : Int32) ddX11_cheapest_92 rfl ?_
        refine ru_iadd ddX11_cheapest_93 ?_
        obtain ⟨v9, hv, h⟩ := ruB_inv h
        refine ru_iald ddX11_cheapest_94 rfl hv ?_
        clear hv
        refine ru_goto 99 ddX11_cheapest_95 (by decide) ?_
        refine ru_wk (L2 := [some (rurf E 83), some (.int x1), some (.int x2), some (.int x3), some (.int x4), some (.int x5), none, some (.int x7), some (.int x8), none]) ⟨rfl, rfl, rfl, rfl, rfl, rfl, rfl, rfl, trivial⟩ ?_
        obtain rfl := ruS1 h
        exact J
theorem wX11_cheapest_l146 {E : ruE} {d : Nat} (hd : 3 ≤ d) {β : Type} {Q : Option Value → ruA → Prop} {res : β} (x1 : Int32) (x2 : Int32) (x3 : Int32) (x4 : Int32) (x5 : Int32) (x6 : Int32) (x7 : Int32) (A : ruA) {k191 : Int32 → Option (β)} (hk191 : ∀ (x8 : Int32), k191 x8 = some res → ruW E mmX11_cheapest d Q 191 [some (rurf E 83), some (.int x1), some (.int x2), some (.int x3), some (.int x4), some (.int x5), none, some (.int x7), some (.int x8), none] [] A) : ∀ (n : Nat) (x8 : Int32) (x9 : Int32), fX11_cheapest_l146 x1 x2 x3 x4 x5 x6 x7 k191 n x8 x9 = some res → ruW E mmX11_cheapest d Q 146 [some (rurf E 83), some (.int x1), some (.int x2), some (.int x3), some (.int x4), some (.int x5), some (.int x6), some (.int x7), some (.int x8), some (.int x9)] [] A := by
  intro n
  induction n with
  | zero =>
    intro x8 x9 h
    exact absurd h (by rw [fX11_cheapest_l146]; exact fun h => nomatch h)
  | succ n ih =>
    intro x8 x9 h
    rw [fX11_cheapest_l146] at h
    refine ru_iload ddX11_cheapest_146 rfl ?_
    refine ru_bipush (7 : Int32) ddX11_cheapest_148 rfl ?_
    refine ru_icmp_gt 191 ddX11_cheapest_150 (by decide) (fun hc => ?_) (fun hc => ?_)
    · rw [if_pos hc] at h
      refine ru_wk (L2 := [some (rurf E 83), some (.int x1), some (.int x2), some (.int x3), some (.int x4), some (.int x5), none, some (.int x7), some (.int x8), none]) ⟨rfl, rfl, rfl, rfl, rfl, rfl, rfl, rfl, trivial⟩ ?_
      exact hk191 x8 h
    · rw [if_neg hc] at h
      refine ru_iload ddX11_cheapest_153 rfl ?_
      obtain ⟨v15, hq, h⟩ := ruB_inv h
      have J : ruW E mmX11_cheapest d Q 183 [some (rurf E 83), some (.int x1), some (.int x2), some (.int x3), some (.int x4), some (.int x5), some (.int x6), some (.int x7), none, some (.int x9)] [.int v15] A := by
          refine ru_istore ddX11_cheapest_183 (by decide) rfl rfl ?_
          refine ru_iinc (x9 + (1 : Int32)) ddX11_cheapest_185 (by decide) rfl rfl rfl rfl ?_
          refine ru_goto 146 ddX11_cheapest_188 (by decide) ?_
          exact ih v15 (x9 + (1 : Int32)) h
      replace h := hq
      clear hq
      refine ru_if_eq 182 ddX11_cheapest_155 (by decide) (fun hc => ?_) (fun hc => ?_)
      · rw [if_pos hc] at h
        refine ru_iconst (0 : Int32) ddX11_cheapest_182 rfl ?_
        refine ru_wk (L2 := [some (rurf E 83), some (.int x1), some (.int x2), some (.int x3), some (.int x4), some (.int x5), some (.int x6), some (.int x7), none, some (.int x9)]) ⟨rfl, rfl, rfl, rfl, rfl, rfl, rfl, rfl, rfl, trivial⟩ ?_
        obtain rfl := ruS1 h
        exact J
      · rw [if_neg hc] at h
        refine ru_iload_n ddX11_cheapest_158 rfl ?_
        refine ru_iload ddX11_cheapest_159 rfl ?_
        obtain ⟨v16, hv, h⟩ := ruB_inv h
        refine ru_callSi (as := [.int x1, .int x9]) (st := []) ddX11_cheapest_161 csX11_95 (wX11_has 1 (Nat.le_refl _) x1 x9 A hv) rfl (Nat.le_trans (m := 3) (by decide) hd) (Nat.le_of_ble_eq_true rfl) ?_
        clear hv
        refine ru_if_eq 178 ddX11_cheapest_164 (by decide) (fun hc => ?_) (fun hc => ?_)
        · rw [if_pos hc] at h
          refine ru_iconst (1 : Int32) ddX11_cheapest_178 rfl ?_
          refine ru_goto 183 ddX11_cheapest_179 (by decide) ?_
          refine ru_wk (L2 := [some (rurf E 83), some (.int x1), some (.int x2), some (.int x3), some (.int x4), some (.int x5), some (.int x6), some (.int x7), none, some (.int x9)]) ⟨rfl, rfl, rfl, rfl, rfl, rfl, rfl, rfl, rfl, trivial⟩ ?_
          obtain rfl := ruS1 h
          exact J
        · rw [if_neg hc] at h
          refine ru_aload_n ddX11_cheapest_167 rfl ?_
          refine ru_iload ddX11_cheapest_168 rfl ?_
          refine ru_iload ddX11_cheapest_170 rfl ?_
          obtain ⟨v17, hv, h⟩ := ruB_inv h
          refine ru_callVi (as := [.int x9, .int x6]) (st := []) ddX11_cheapest_172 cvX11_261 rfl (wX11_isBarred 2 (Nat.le_refl _) x9 x6 A hv) rfl (Nat.le_trans (m := 3) (by decide) hd) (Nat.le_of_ble_eq_true rfl) ?_
          clear hv
          refine ru_if_eq 182 ddX11_cheapest_175 (by decide) (fun hc => ?_) (fun hc => ?_)
          · rw [if_pos hc] at h
            refine ru_iconst (0 : Int32) ddX11_cheapest_182 rfl ?_
            refine ru_wk (L2 := [some (rurf E 83), some (.int x1), some (.int x2), some (.int x3), some (.int x4), some (.int x5), some (.int x6), some (.int x7), none, some (.int x9)]) ⟨rfl, rfl, rfl, rfl, rfl, rfl, rfl, rfl, rfl, trivial⟩ ?_
            obtain rfl := ruS1 h
            exact J
          · rw [if_neg hc] at h
            refine ru_iconst (1 : Int32) ddX11_cheapest_178 rfl ?_
            refine ru_goto 183 ddX11_cheapest_179 (by decide) ?_
            refine ru_wk (L2 := [some (rurf E 83), some (.int x1), some (.int x2), some (.int x3), some (.int x4), some (.int x5), some (.int x6), some (.int x7), none, some (.int x9)]) ⟨rfl, rfl, rfl, rfl, rfl, rfl, rfl, rfl, rfl, trivial⟩ ?_
            obtain rfl := ruS1 h
            exact J
theorem wX11_cheapest_l35 {E : ruE} {d : Nat} (hd : 3 ≤ d) {β : Type} {Q : Option Value → ruA → Prop} {res : β} (x1 : Int32) (x2 : Int32) (A : ruA) {k239 : Int32 → Int32 → Option (β)} (hk239 : ∀ (x3 : Int32) (x4 : Int32), k239 x3 x4 = some res → ruW E mmX11_cheapest d Q 239 [some (rurf E 83), none, some (.int x2), some (.int x3), some (.int x4), none, none, none, none, none] [] A) : ∀ (n : Nat) (x3 : Int32) (x4 : Int32) (x5 : Int32), fX11_cheapest_l35 x1 x2 A k239 n x3 x4 x5 = some res → ruW E mmX11_cheapest d Q 35 [some (rurf E 83), some (.int x1), some (.int x2), some (.int x3), some (.int x4), some (.int x5), none, none, none, none] [] A := by
  intro n
  induction n with
  | zero =>
    intro x3 x4 x5 h
    exact absurd h (by rw [fX11_cheapest_l35]; exact fun h => nomatch h)
  | succ n ih =>
    intro x3 x4 x5 h
    rw [fX11_cheapest_l35] at h
    refine ru_iload ddX11_cheapest_35 rfl ?_
    refine ru_iconst (1 : Int32) ddX11_cheapest_37 rfl ?_
    refine ru_aload_n ddX11_cheapest_38 rfl ?_
    refine ru_getR (r := 84) ddX11_cheapest_39 flX11_9 rfl rfl ?_
    refine ru_iconst (5 : Int32) ddX11_cheapest_42 rfl ?_
    obtain ⟨v5, hv, h⟩ := ruB_inv h
    refine ru_iald ddX11_cheapest_43 rfl hv ?_
    clear hv
    refine ru_ishl ddX11_cheapest_44 ?_
    refine ru_icmp_ge 239 ddX11_cheapest_45 (by decide) (fun hc => ?_) (fun hc => ?_)
    · rw [if_pos hc] at h
      refine ru_wk (L2 := [some (rurf E 83), none, some (.int x2), some (.int x3), some (.int x4), none, none, none, none, none]) ⟨rfl, rfl, rfl, rfl, trivial⟩ ?_
      exact hk239 x3 x4 h
    · rw [if_neg hc] at h
      refine ru_iconst (0 : Int32) ddX11_cheapest_48 rfl ?_
      refine ru_istore ddX11_cheapest_49 (by decide) rfl rfl ?_
      refine ru_iconst (0 : Int32) ddX11_cheapest_51 rfl ?_
      refine ru_istore ddX11_cheapest_52 (by decide) rfl rfl ?_
      refine ru_iconst (0 : Int32) ddX11_cheapest_54 rfl ?_
      refine ru_istore ddX11_cheapest_55 (by decide) rfl rfl ?_
      exact wX11_cheapest_l57 hd x1 x2 x3 x4 x5 A (fun v13 v14 h => by
            refine ru_iconst (1 : Int32) ddX11_cheapest_140 rfl ?_
            refine ru_istore ddX11_cheapest_141 (by decide) rfl rfl ?_
            refine ru_iconst (0 : Int32) ddX11_cheapest_143 rfl ?_
            refine ru_istore ddX11_cheapest_144 (by decide) rfl rfl ?_
            exact wX11_cheapest_l146 hd x1 x2 x3 x4 x5 v13 v14 A (fun v18 h => by
                  refine ru_iload ddX11_cheapest_191 rfl ?_
                  obtain ⟨v19, v20, hq, h⟩ := ruB2_inv h
                  have J : ruW E mmX11_cheapest d Q 233 [some (rurf E 83), some (.int x1), some (.int x2), some (.int v19), some (.int v20), some (.int x5), none, none, none, none] [] A := by
                      refine ru_iinc (x5 + (1 : Int32)) ddX11_cheapest_233 (by decide) rfl rfl rfl rfl ?_
                      refine ru_goto 35 ddX11_cheapest_236 (by decide) ?_
                      exact ih v19 v20 (x5 + (1 : Int32)) h
                  replace h := hq
                  clear hq
                  refine ru_if_eq 233 ddX11_cheapest_193 (by decide) (fun hc => ?_) (fun hc => ?_)
                  · rw [if_pos hc] at h
                    refine ru_wk (L2 := [some (rurf E 83), some (.int x1), some (.int x2), some (.int x3), some (.int x4), some (.int x5), none, none, none, none]) ⟨rfl, rfl, rfl, rfl, rfl, rfl, trivial⟩ ?_
                    obtain ⟨rfl, rfl⟩ := ruS2 h
                    exact J
                  · rw [if_neg hc] at h
                    refine ru_iload_n ddX11_cheapest_196 rfl ?_
                    refine ru_if_lt 226 ddX11_cheapest_197 (by decide) (fun hc => ?_) (fun hc => ?_)
                    · rw [if_pos hc] at h
                      refine ru_iload ddX11_cheapest_226 rfl ?_
                      refine ru_istore_n ddX11_cheapest_228 (by decide) rfl rfl ?_
                      refine ru_iload ddX11_cheapest_229 rfl ?_
                      refine ru_istore ddX11_cheapest_231 (by decide) rfl rfl ?_
                      refine ru_wk (L2 := [some (rurf E 83), some (.int x1), some (.int x2), some (.int x5), some (.int v14), some (.int x5), none, none, none, none]) ⟨rfl, rfl, rfl, rfl, rfl, rfl, trivial⟩ ?_
                      obtain ⟨rfl, rfl⟩ := ruS2 h
                      exact J
                    · rw [if_neg hc] at h
                      refine ru_iload ddX11_cheapest_200 rfl ?_
                      refine ru_iload ddX11_cheapest_202 rfl ?_
                      refine ru_icmp_lt 226 ddX11_cheapest_204 (by decide) (fun hc => ?_) (fun hc => ?_)
                      · rw [if_pos hc] at h
                        refine ru_iload ddX11_cheapest_226 rfl ?_
                        refine ru_istore_n ddX11_cheapest_228 (by decide) rfl rfl ?_
                        refine ru_iload ddX11_cheapest_229 rfl ?_
                        refine ru_istore ddX11_cheapest_231 (by decide) rfl rfl ?_
                        refine ru_wk (L2 := [some (rurf E 83), some (.int x1), some (.int x2), some (.int x5), some (.int v14), some (.int x5), none, none, none, none]) ⟨rfl, rfl, rfl, rfl, rfl, rfl, trivial⟩ ?_
                        obtain ⟨rfl, rfl⟩ := ruS2 h
                        exact J
                      · rw [if_neg hc] at h
                        refine ru_iload ddX11_cheapest_207 rfl ?_
                        refine ru_iload ddX11_cheapest_209 rfl ?_
                        refine ru_icmp_ne 233 ddX11_cheapest_211 (by decide) (fun hc => ?_) (fun hc => ?_)
                        · rw [if_neg hc] at h
                          refine ru_wk (L2 := [some (rurf E 83), some (.int x1), some (.int x2), some (.int x3), some (.int x4), some (.int x5), none, none, none, none]) ⟨rfl, rfl, rfl, rfl, rfl, rfl, trivial⟩ ?_
                          obtain ⟨rfl, rfl⟩ := ruS2 h
                          exact J
                        · rw [if_pos hc] at h
                          refine ru_iload ddX11_cheapest_214 rfl ?_
                          obtain ⟨v21, hv, h⟩ := ruB_inv h
                          refine ru_callSi (as := [.int x5]) (st := []) ddX11_cheapest_216 csX11_167 (wX11_bits 1 (Nat.le_refl _) x5 A hv) rfl (Nat.le_trans (m := 3) (by decide) hd) (Nat.le_of_ble_eq_true rfl) ?_
                          clear hv
                          refine ru_iload_n ddX11_cheapest_219 rfl ?_
                          obtain ⟨v22, hv, h⟩ := ruB_inv h
                          refine ru_callSi (as := [.int x3]) (st := [.int v21]) ddX11_cheapest_220 csX11_167 (wX11_bits 1 (Nat.le_refl _) x3 A hv) rfl (Nat.le_trans (m := 3) (by decide) hd) (Nat.le_of_ble_eq_true rfl) ?_
                          clear hv
                          refine ru_icmp_ge 233 ddX11_cheapest_223 (by decide) (fun hc => ?_) (fun hc => ?_)
                          · rw [if_pos hc] at h
                            refine ru_wk (L2 := [some (rurf E 83), some (.int x1), some (.int x2), some (.int x3), some (.int x4), some (.int x5), none, none, none, none]) ⟨rfl, rfl, rfl, rfl, rfl, rfl, trivial⟩ ?_
                            obtain ⟨rfl, rfl⟩ := ruS2 h
                            exact J
                          · rw [if_neg hc] at h
                            refine ru_iload ddX11_cheapest_226 rfl ?_
                            refine ru_istore_n ddX11_cheapest_228 (by decide) rfl rfl ?_
                            refine ru_iload ddX11_cheapest_229 rfl ?_
                            refine ru_istore ddX11_cheapest_231 (by decide) rfl rfl ?_
                            refine ru_wk (L2 := [some (rurf E 83), some (.int x1), some (.int x2), some (.int x5), some (.int v14), some (.int x5), none, none, none, none]) ⟨rfl, rfl, rfl, rfl, rfl, rfl, trivial⟩ ?_
                            obtain ⟨rfl, rfl⟩ := ruS2 h
                            exact J) ruF (1 : Int32) (0 : Int32) h) ruF (0 : Int32) (0 : Int32) (0 : Int32) h
theorem wX11_cheapest {E : ruE} (d : Nat) (hd : 3 ≤ d) (x1 : Int32) (x2 : Int32) (A : ruA) {r : Int32} {B : ruA} (h : fX11_cheapest x1 x2 A = some (r, B)) : ruC E mmX11_cheapest d [rurf E 83, .int x1, .int x2] A (ruPr r B) := by
  refine ruC.of (L := [some (rurf E 83), some (.int x1), some (.int x2), none, none, none, none, none, none, none]) (by decide) rfl (Nat.le_of_ble_eq_true rfl) rfl ?_
  unfold fX11_cheapest at h
  refine ru_iload_n ddX11_cheapest_0 rfl ?_
  refine ru_iconst (0 : Int32) ddX11_cheapest_1 rfl ?_
  refine ru_sipush (255 : Int32) ddX11_cheapest_2 rfl ?_
  obtain ⟨v1, hv, h⟩ := ruB_inv h
  refine ru_callSi (as := [.int x1, .int (0 : Int32), .int (255 : Int32)]) (st := []) ddX11_cheapest_5 csX11_66 (wX11_within 1 (Nat.le_refl _) x1 (0 : Int32) (255 : Int32) A hv) rfl (Nat.le_trans (m := 3) (by decide) hd) (Nat.le_of_ble_eq_true rfl) ?_
  clear hv
  refine ru_if_eq 20 ddX11_cheapest_8 (by decide) (fun hc => ?_) (fun hc => ?_)
  · rw [if_pos hc] at h
    refine ru_aload_n ddX11_cheapest_20 rfl ?_
    refine ru_ldc (v := (-1000001 : Int32)) ddX11_cheapest_21 ckX11_65 ?_
    obtain ⟨v2, A3, hv, h⟩ := ruB2_inv h
    refine ru_callVi (as := [.int (-1000001 : Int32)]) (st := []) ddX11_cheapest_23 cvX11_82 rfl (wX11_finding 1 (Nat.le_refl _) (-1000001 : Int32) A hv) rfl (Nat.le_trans (m := 3) (by decide) hd) (Nat.le_of_ble_eq_true rfl) ?_
    clear hv
    exact ru_iretW ddX11_cheapest_26 rfl h
  · rw [if_neg hc] at h
    refine ru_iload_n ddX11_cheapest_11 rfl ?_
    refine ru_iconst (0 : Int32) ddX11_cheapest_12 rfl ?_
    refine ru_iconst (1 : Int32) ddX11_cheapest_13 rfl ?_
    obtain ⟨v4, hv, h⟩ := ruB_inv h
    refine ru_callSi (as := [.int x2, .int (0 : Int32), .int (1 : Int32)]) (st := []) ddX11_cheapest_14 csX11_66 (wX11_within 1 (Nat.le_refl _) x2 (0 : Int32) (1 : Int32) A hv) rfl (Nat.le_trans (m := 3) (by decide) hd) (Nat.le_of_ble_eq_true rfl) ?_
    clear hv
    refine ru_if_ne 27 ddX11_cheapest_17 (by decide) (fun hc => ?_) (fun hc => ?_)
    · rw [if_neg hc] at h
      refine ru_iconst (-1 : Int32) ddX11_cheapest_27 rfl ?_
      refine ru_istore_n ddX11_cheapest_28 (by decide) rfl rfl ?_
      refine ru_iconst (0 : Int32) ddX11_cheapest_29 rfl ?_
      refine ru_istore ddX11_cheapest_30 (by decide) rfl rfl ?_
      refine ru_iconst (0 : Int32) ddX11_cheapest_32 rfl ?_
      refine ru_istore ddX11_cheapest_33 (by decide) rfl rfl ?_
      exact wX11_cheapest_l35 hd x1 x2 A (fun v23 v24 h => by
            refine ru_iload_n ddX11_cheapest_239 rfl ?_
            refine ru_if_ge 250 ddX11_cheapest_240 (by decide) (fun hc => ?_) (fun hc => ?_)
            · rw [if_pos hc] at h
              refine ru_iload_n ddX11_cheapest_250 rfl ?_
              refine ru_if_ne 259 ddX11_cheapest_251 (by decide) (fun hc => ?_) (fun hc => ?_)
              · rw [if_neg hc] at h
                refine ru_iload_n ddX11_cheapest_259 rfl ?_
                exact ru_iretW ddX11_cheapest_260 rfl h
              · rw [if_pos hc] at h
                refine ru_iload ddX11_cheapest_254 rfl ?_
                refine ru_goto 260 ddX11_cheapest_256 (by decide) ?_
                exact ru_iretW ddX11_cheapest_260 rfl h
            · rw [if_neg hc] at h
              refine ru_aload_n ddX11_cheapest_243 rfl ?_
              refine ru_ldc (v := (-1000004 : Int32)) ddX11_cheapest_244 ckX11_127 ?_
              obtain ⟨v25, A26, hv, h⟩ := ruB2_inv h
              refine ru_callVi (as := [.int (-1000004 : Int32)]) (st := []) ddX11_cheapest_246 cvX11_82 rfl (wX11_finding 1 (Nat.le_refl _) (-1000004 : Int32) A hv) rfl (Nat.le_trans (m := 3) (by decide) hd) (Nat.le_of_ble_eq_true rfl) ?_
              clear hv
              exact ru_iretW ddX11_cheapest_249 rfl h) ruF (-1 : Int32) (0 : Int32) (0 : Int32) h
    · rw [if_pos hc] at h
      refine ru_aload_n ddX11_cheapest_20 rfl ?_
      refine ru_ldc (v := (-1000001 : Int32)) ddX11_cheapest_21 ckX11_65 ?_
      obtain ⟨v27, A28, hv, h⟩ := ruB2_inv h
      refine ru_callVi (as := [.int (-1000001 : Int32)]) (st := []) ddX11_cheapest_23 cvX11_82 rfl (wX11_finding 1 (Nat.le_refl _) (-1000001 : Int32) A hv) rfl (Nat.le_trans (m := 3) (by decide) hd) (Nat.le_of_ble_eq_true rfl) ?_
      clear hv
      exact ru_iretW ddX11_cheapest_26 rfl h
theorem wX11_slip_l85 {E : ruE} {d : Nat} (hd : 3 ≤ d) {β : Type} {Q : Option Value → ruA → Prop} {res : β} (x1 : Int32) {k111 : ruA → Option (β)} (hk111 : ∀ (A : ruA), k111 A = some res → ruW E mmX11_slip d Q 111 [some (rurf E 83), some (.int x1), none, none, none] [] A) : ∀ (n : Nat) (x4 : Int32) (A : ruA), fX11_slip_l85 x1 k111 n x4 A = some res → ruW E mmX11_slip d Q 85 [some (rurf E 83), some (.int x1), none, none, some (.int x4)] [] A := by
  intro n
  induction n with
  | zero =>
    intro x4 A h
    exact absurd h (by rw [fX11_slip_l85]; exact fun h => nomatch h)
  | succ n ih =>
    intro x4 A h
    rw [fX11_slip_l85] at h
    refine ru_iload ddX11_slip_85 rfl ?_
    refine ru_bipush (24 : Int32) ddX11_slip_87 rfl ?_
    refine ru_icmp_ge 111 ddX11_slip_89 (by decide) (fun hc => ?_) (fun hc => ?_)
    · rw [if_pos hc] at h
      refine ru_wk (L2 := [some (rurf E 83), some (.int x1), none, none, none]) ⟨rfl, rfl, trivial⟩ ?_
      exact hk111 A h
    · rw [if_neg hc] at h
      refine ru_aload_n ddX11_slip_92 rfl ?_
      refine ru_getR (r := 90) ddX11_slip_93 flX11_28 rfl rfl ?_
      refine ru_bipush (24 : Int32) ddX11_slip_96 rfl ?_
      refine ru_iload_n ddX11_slip_98 rfl ?_
      refine ru_imul ddX11_slip_99 ?_
      refine ru_iload ddX11_slip_100 rfl ?_
      refine ru_iadd ddX11_slip_102 ?_
      refine ru_iconst (0 : Int32) ddX11_slip_103 rfl ?_
      obtain ⟨A7, hv, h⟩ := ruB_inv h
      refine ru_iast ddX11_slip_104 rfl hv ?_
      clear hv
      refine ru_iinc (x4 + (1 : Int32)) ddX11_slip_105 (by decide) rfl rfl rfl rfl ?_
      refine ru_goto 85 ddX11_slip_108 (by decide) ?_
      exact ih (x4 + (1 : Int32)) A7 h
theorem wX11_slip {E : ruE} (d : Nat) (hd : 3 ≤ d) (x1 : Int32) (x2 : Int32) (x3 : Int32) (A : ruA) {r : Int32} {B : ruA} (h : fX11_slip x1 x2 x3 A = some (r, B)) : ruC E mmX11_slip d [rurf E 83, .int x1, .int x2, .int x3] A (ruPr r B) := by
  refine ruC.of (L := [some (rurf E 83), some (.int x1), some (.int x2), some (.int x3), none]) (by decide) rfl (Nat.le_of_ble_eq_true rfl) rfl ?_
  unfold fX11_slip at h
  refine ru_iload_n ddX11_slip_0 rfl ?_
  obtain ⟨v1, hv, h⟩ := ruB_inv h
  refine ru_callSi (as := [.int x1]) (st := []) ddX11_slip_1 csX11_115 (wX11_isSlip 2 (Nat.le_refl _) x1 A hv) rfl (Nat.le_trans (m := 3) (by decide) hd) (Nat.le_of_ble_eq_true rfl) ?_
  clear hv
  refine ru_if_eq 29 ddX11_slip_4 (by decide) (fun hc => ?_) (fun hc => ?_)
  · rw [if_pos hc] at h
    refine ru_aload_n ddX11_slip_29 rfl ?_
    refine ru_ldc (v := (-1000001 : Int32)) ddX11_slip_30 ckX11_65 ?_
    obtain ⟨v2, A3, hv, h⟩ := ruB2_inv h
    refine ru_callVi (as := [.int (-1000001 : Int32)]) (st := []) ddX11_slip_32 cvX11_82 rfl (wX11_finding 1 (Nat.le_refl _) (-1000001 : Int32) A hv) rfl (Nat.le_trans (m := 3) (by decide) hd) (Nat.le_of_ble_eq_true rfl) ?_
    clear hv
    exact ru_iretW ddX11_slip_35 rfl h
  · rw [if_neg hc] at h
    refine ru_iload_n ddX11_slip_7 rfl ?_
    refine ru_if_eq 36 ddX11_slip_8 (by decide) (fun hc => ?_) (fun hc => ?_)
    · rw [if_pos hc] at h
      refine ru_iload_n ddX11_slip_36 rfl ?_
      refine ru_if_ge 47 ddX11_slip_37 (by decide) (fun hc => ?_) (fun hc => ?_)
      · rw [if_pos hc] at h
        refine ru_iload_n ddX11_slip_47 rfl ?_
        refine ru_bipush (24 : Int32) ddX11_slip_48 rfl ?_
        refine ru_icmp_le 60 ddX11_slip_50 (by decide) (fun hc => ?_) (fun hc => ?_)
        · rw [if_pos hc] at h
          refine ru_aload_n ddX11_slip_60 rfl ?_
          refine ru_getR (r := 88) ddX11_slip_61 flX11_22 rfl rfl ?_
          refine ru_iload_n ddX11_slip_64 rfl ?_
          refine ru_iload_n ddX11_slip_65 rfl ?_
          obtain ⟨A4, hv, h⟩ := ruB_inv h
          refine ru_iast ddX11_slip_66 rfl hv ?_
          clear hv
          refine ru_aload_n ddX11_slip_67 rfl ?_
          refine ru_getR (r := 89) ddX11_slip_68 flX11_25 rfl rfl ?_
          refine ru_iload_n ddX11_slip_71 rfl ?_
          refine ru_iload_n ddX11_slip_72 rfl ?_
          obtain ⟨v5, hq, h⟩ := ruB_inv h
          have J : ruW E mmX11_slip d (ruPr r B) 81 [some (rurf E 83), some (.int x1), none, none, none] [.int v5, .int x1, rurf E 89] A4 := by
              obtain ⟨A6, hv, h⟩ := ruB_inv h
              refine ru_iast ddX11_slip_81 rfl hv ?_
              clear hv
              refine ru_iconst (0 : Int32) ddX11_slip_82 rfl ?_
              refine ru_istore ddX11_slip_83 (by decide) rfl rfl ?_
              exact wX11_slip_l85 hd x1 (fun A8 h => by
                    refine ru_aload_n ddX11_slip_111 rfl ?_
                    refine ru_getR (r := 89) ddX11_slip_112 flX11_25 rfl rfl ?_
                    refine ru_iload_n ddX11_slip_115 rfl ?_
                    obtain ⟨v9, hv, h⟩ := ruB_inv h
                    refine ru_iald ddX11_slip_116 rfl hv ?_
                    clear hv
                    exact ru_iretW ddX11_slip_117 rfl h) ruF (0 : Int32) A6 h
          replace h := hq
          clear hq
          refine ru_if_ne 80 ddX11_slip_73 (by decide) (fun hc => ?_) (fun hc => ?_)
          · rw [if_neg hc] at h
            refine ru_iload_n ddX11_slip_80 rfl ?_
            refine ru_wk (L2 := [some (rurf E 83), some (.int x1), none, none, none]) ⟨rfl, rfl, trivial⟩ ?_
            obtain rfl := ruS1 h
            exact J
          · rw [if_pos hc] at h
            refine ru_iconst (0 : Int32) ddX11_slip_76 rfl ?_
            refine ru_goto 81 ddX11_slip_77 (by decide) ?_
            refine ru_wk (L2 := [some (rurf E 83), some (.int x1), none, none, none]) ⟨rfl, rfl, trivial⟩ ?_
            obtain rfl := ruS1 h
            exact J
        · rw [if_neg hc] at h
          refine ru_aload_n ddX11_slip_53 rfl ?_
          refine ru_ldc (v := (-1000001 : Int32)) ddX11_slip_54 ckX11_65 ?_
          obtain ⟨v10, A11, hv, h⟩ := ruB2_inv h
          refine ru_callVi (as := [.int (-1000001 : Int32)]) (st := []) ddX11_slip_56 cvX11_82 rfl (wX11_finding 1 (Nat.le_refl _) (-1000001 : Int32) A hv) rfl (Nat.le_trans (m := 3) (by decide) hd) (Nat.le_of_ble_eq_true rfl) ?_
          clear hv
          exact ru_iretW ddX11_slip_59 rfl h
      · rw [if_neg hc] at h
        refine ru_aload_n ddX11_slip_40 rfl ?_
        refine ru_ldc (v := (-1000007 : Int32)) ddX11_slip_41 ckX11_119 ?_
        obtain ⟨v12, A13, hv, h⟩ := ruB2_inv h
        refine ru_callVi (as := [.int (-1000007 : Int32)]) (st := []) ddX11_slip_43 cvX11_82 rfl (wX11_finding 1 (Nat.le_refl _) (-1000007 : Int32) A hv) rfl (Nat.le_trans (m := 3) (by decide) hd) (Nat.le_of_ble_eq_true rfl) ?_
        clear hv
        exact ru_iretW ddX11_slip_46 rfl h
    · rw [if_neg hc] at h
      refine ru_iload_n ddX11_slip_11 rfl ?_
      refine ru_bipush (8 : Int32) ddX11_slip_12 rfl ?_
      refine ru_icmp_eq 36 ddX11_slip_14 (by decide) (fun hc => ?_) (fun hc => ?_)
      · rw [if_pos hc] at h
        refine ru_iload_n ddX11_slip_36 rfl ?_
        refine ru_if_ge 47 ddX11_slip_37 (by decide) (fun hc => ?_) (fun hc => ?_)
        · rw [if_pos hc] at h
          refine ru_iload_n ddX11_slip_47 rfl ?_
          refine ru_bipush (24 : Int32) ddX11_slip_48 rfl ?_
          refine ru_icmp_le 60 ddX11_slip_50 (by decide) (fun hc => ?_) (fun hc => ?_)
          · rw [if_pos hc] at h
            refine ru_aload_n ddX11_slip_60 rfl ?_
            refine ru_getR (r := 88) ddX11_slip_61 flX11_22 rfl rfl ?_
            refine ru_iload_n ddX11_slip_64 rfl ?_
            refine ru_iload_n ddX11_slip_65 rfl ?_
            obtain ⟨A14, hv, h⟩ := ruB_inv h
            refine ru_iast ddX11_slip_66 rfl hv ?_
            clear hv
            refine ru_aload_n ddX11_slip_67 rfl ?_
            refine ru_getR (r := 89) ddX11_slip_68 flX11_25 rfl rfl ?_
            refine ru_iload_n ddX11_slip_71 rfl ?_
            refine ru_iload_n ddX11_slip_72 rfl ?_
            obtain ⟨v15, hq, h⟩ := ruB_inv h
            have J : ruW E mmX11_slip d (ruPr r B) 81 [some (rurf E 83), some (.int x1), none, none, none] [.int v15, .int x1, rurf E 89] A14 := by
                obtain ⟨A16, hv, h⟩ := ruB_inv h
                refine ru_iast ddX11_slip_81 rfl hv ?_
                clear hv
                refine ru_iconst (0 : Int32) ddX11_slip_82 rfl ?_
                refine ru_istore ddX11_slip_83 (by decide) rfl rfl ?_
                exact wX11_slip_l85 hd x1 (fun A17 h => by
                      refine ru_aload_n ddX11_slip_111 rfl ?_
                      refine ru_getR (r := 89) ddX11_slip_112 flX11_25 rfl rfl ?_
                      refine ru_iload_n ddX11_slip_115 rfl ?_
                      obtain ⟨v18, hv, h⟩ := ruB_inv h
                      refine ru_iald ddX11_slip_116 rfl hv ?_
                      clear hv
                      exact ru_iretW ddX11_slip_117 rfl h) ruF (0 : Int32) A16 h
            replace h := hq
            clear hq
            refine ru_if_ne 80 ddX11_slip_73 (by decide) (fun hc => ?_) (fun hc => ?_)
            · rw [if_neg hc] at h
              refine ru_iload_n ddX11_slip_80 rfl ?_
              refine ru_wk (L2 := [some (rurf E 83), some (.int x1), none, none, none]) ⟨rfl, rfl, trivial⟩ ?_
              obtain rfl := ruS1 h
              exact J
            · rw [if_pos hc] at h
              refine ru_iconst (0 : Int32) ddX11_slip_76 rfl ?_
              refine ru_goto 81 ddX11_slip_77 (by decide) ?_
              refine ru_wk (L2 := [some (rurf E 83), some (.int x1), none, none, none]) ⟨rfl, rfl, trivial⟩ ?_
              obtain rfl := ruS1 h
              exact J
          · rw [if_neg hc] at h
            refine ru_aload_n ddX11_slip_53 rfl ?_
            refine ru_ldc (v := (-1000001 : Int32)) ddX11_slip_54 ckX11_65 ?_
            obtain ⟨v19, A20, hv, h⟩ := ruB2_inv h
            refine ru_callVi (as := [.int (-1000001 : Int32)]) (st := []) ddX11_slip_56 cvX11_82 rfl (wX11_finding 1 (Nat.le_refl _) (-1000001 : Int32) A hv) rfl (Nat.le_trans (m := 3) (by decide) hd) (Nat.le_of_ble_eq_true rfl) ?_
            clear hv
            exact ru_iretW ddX11_slip_59 rfl h
        · rw [if_neg hc] at h
          refine ru_aload_n ddX11_slip_40 rfl ?_
          refine ru_ldc (v := (-1000007 : Int32)) ddX11_slip_41 ckX11_119 ?_
          obtain ⟨v21, A22, hv, h⟩ := ruB2_inv h
          refine ru_callVi (as := [.int (-1000007 : Int32)]) (st := []) ddX11_slip_43 cvX11_82 rfl (wX11_finding 1 (Nat.le_refl _) (-1000007 : Int32) A hv) rfl (Nat.le_trans (m := 3) (by decide) hd) (Nat.le_of_ble_eq_true rfl) ?_
          clear hv
          exact ru_iretW ddX11_slip_46 rfl h
      · rw [if_neg hc] at h
        refine ru_iload_n ddX11_slip_17 rfl ?_
        refine ru_bipush (16 : Int32) ddX11_slip_18 rfl ?_
        refine ru_icmp_eq 36 ddX11_slip_20 (by decide) (fun hc => ?_) (fun hc => ?_)
        · rw [if_pos hc] at h
          refine ru_iload_n ddX11_slip_36 rfl ?_
          refine ru_if_ge 47 ddX11_slip_37 (by decide) (fun hc => ?_) (fun hc => ?_)
          · rw [if_pos hc] at h
            refine ru_iload_n ddX11_slip_47 rfl ?_
            refine ru_bipush (24 : Int32) ddX11_slip_48 rfl ?_
            refine ru_icmp_le 60 ddX11_slip_50 (by decide) (fun hc => ?_) (fun hc => ?_)
            · rw [if_pos hc] at h
              refine ru_aload_n ddX11_slip_60 rfl ?_
              refine ru_getR (r := 88) ddX11_slip_61 flX11_22 rfl rfl ?_
              refine ru_iload_n ddX11_slip_64 rfl ?_
              refine ru_iload_n ddX11_slip_65 rfl ?_
              obtain ⟨A23, hv, h⟩ := ruB_inv h
              refine ru_iast ddX11_slip_66 rfl hv ?_
              clear hv
              refine ru_aload_n ddX11_slip_67 rfl ?_
              refine ru_getR (r := 89) ddX11_slip_68 flX11_25 rfl rfl ?_
              refine ru_iload_n ddX11_slip_71 rfl ?_
              refine ru_iload_n ddX11_slip_72 rfl ?_
              obtain ⟨v24, hq, h⟩ := ruB_inv h
              have J : ruW E mmX11_slip d (ruPr r B) 81 [some (rurf E 83), some (.int x1), none, none, none] [.int v24, .int x1, rurf E 89] A23 := by
                  obtain ⟨A25, hv, h⟩ := ruB_inv h
                  refine ru_iast ddX11_slip_81 rfl hv ?_
                  clear hv
                  refine ru_iconst (0 : Int32) ddX11_slip_82 rfl ?_
                  refine ru_istore ddX11_slip_83 (by decide) rfl rfl ?_
                  exact wX11_slip_l85 hd x1 (fun A26 h => by
                        refine ru_aload_n ddX11_slip_111 rfl ?_
                        refine ru_getR (r := 89) ddX11_slip_112 flX11_25 rfl rfl ?_
                        refine ru_iload_n ddX11_slip_115 rfl ?_
                        obtain ⟨v27, hv, h⟩ := ruB_inv h
                        refine ru_iald ddX11_slip_116 rfl hv ?_
                        clear hv
                        exact ru_iretW ddX11_slip_117 rfl h) ruF (0 : Int32) A25 h
              replace h := hq
              clear hq
              refine ru_if_ne 80 ddX11_slip_73 (by decide) (fun hc => ?_) (fun hc => ?_)
              · rw [if_neg hc] at h
                refine ru_iload_n ddX11_slip_80 rfl ?_
                refine ru_wk (L2 := [some (rurf E 83), some (.int x1), none, none, none]) ⟨rfl, rfl, trivial⟩ ?_
                obtain rfl := ruS1 h
                exact J
              · rw [if_pos hc] at h
                refine ru_iconst (0 : Int32) ddX11_slip_76 rfl ?_
                refine ru_goto 81 ddX11_slip_77 (by decide) ?_
                refine ru_wk (L2 := [some (rurf E 83), some (.int x1), none, none, none]) ⟨rfl, rfl, trivial⟩ ?_
                obtain rfl := ruS1 h
                exact J
            · rw [if_neg hc] at h
              refine ru_aload_n ddX11_slip_53 rfl ?_
              refine ru_ldc (v := (-1000001 : Int32)) ddX11_slip_54 ckX11_65 ?_
              obtain ⟨v28, A29, hv, h⟩ := ruB2_inv h
              refine ru_callVi (as := [.int (-1000001 : Int32)]) (st := []) ddX11_slip_56 cvX11_82 rfl (wX11_finding 1 (Nat.le_refl _) (-1000001 : Int32) A hv) rfl (Nat.le_trans (m := 3) (by decide) hd) (Nat.le_of_ble_eq_true rfl) ?_
              clear hv
              exact ru_iretW ddX11_slip_59 rfl h
          · rw [if_neg hc] at h
            refine ru_aload_n ddX11_slip_40 rfl ?_
            refine ru_ldc (v := (-1000007 : Int32)) ddX11_slip_41 ckX11_119 ?_
            obtain ⟨v30, A31, hv, h⟩ := ruB2_inv h
            refine ru_callVi (as := [.int (-1000007 : Int32)]) (st := []) ddX11_slip_43 cvX11_82 rfl (wX11_finding 1 (Nat.le_refl _) (-1000007 : Int32) A hv) rfl (Nat.le_trans (m := 3) (by decide) hd) (Nat.le_of_ble_eq_true rfl) ?_
            clear hv
            exact ru_iretW ddX11_slip_46 rfl h
        · rw [if_neg hc] at h
          refine ru_iload_n ddX11_slip_23 rfl ?_
          refine ru_bipush (32 : Int32) ddX11_slip_24 rfl ?_
          refine ru_icmp_eq 36 ddX11_slip_26 (by decide) (fun hc => ?_) (fun hc => ?_)
          · rw [if_pos hc] at h
            refine ru_iload_n ddX11_slip_36 rfl ?_
            refine ru_if_ge 47 ddX11_slip_37 (by decide) (fun hc => ?_) (fun hc => ?_)
            · rw [if_pos hc] at h
              refine ru_iload_n ddX11_slip_47 rfl ?_
              refine ru_bipush (24 : Int32) ddX11_slip_48 rfl ?_
              refine ru_icmp_le 60 ddX11_slip_50 (by decide) (fun hc => ?_) (fun hc => ?_)
              · rw [if_pos hc] at h
                refine ru_aload_n ddX11_slip_60 rfl ?_
                refine ru_getR (r := 88) ddX11_slip_61 flX11_22 rfl rfl ?_
                refine ru_iload_n ddX11_slip_64 rfl ?_
                refine ru_iload_n ddX11_slip_65 rfl ?_
                obtain ⟨A32, hv, h⟩ := ruB_inv h
                refine ru_iast ddX11_slip_66 rfl hv ?_
                clear hv
                refine ru_aload_n ddX11_slip_67 rfl ?_
                refine ru_getR (r := 89) ddX11_slip_68 flX11_25 rfl rfl ?_
                refine ru_iload_n ddX11_slip_71 rfl ?_
                refine ru_iload_n ddX11_slip_72 rfl ?_
                obtain ⟨v33, hq, h⟩ := ruB_inv h
                have J : ruW E mmX11_slip d (ruPr r B) 81 [some (rurf E 83), some (.int x1), none, none, none] [.int v33, .int x1, rurf E 89] A32 := by
                    obtain ⟨A34, hv, h⟩ := ruB_inv h
                    refine ru_iast ddX11_slip_81 rfl hv ?_
                    clear hv
                    refine ru_iconst (0 : Int32) ddX11_slip_82 rfl ?_
                    refine ru_istore ddX11_slip_83 (by decide) rfl rfl ?_
                    exact wX11_slip_l85 hd x1 (fun A35 h => by
                          refine ru_aload_n ddX11_slip_111 rfl ?_
                          refine ru_getR (r := 89) ddX11_slip_112 flX11_25 rfl rfl ?_
                          refine ru_iload_n ddX11_slip_115 rfl ?_
                          obtain ⟨v36, hv, h⟩ := ruB_inv h
                          refine ru_iald ddX11_slip_116 rfl hv ?_
                          clear hv
                          exact ru_iretW ddX11_slip_117 rfl h) ruF (0 : Int32) A34 h
                replace h := hq
                clear hq
                refine ru_if_ne 80 ddX11_slip_73 (by decide) (fun hc => ?_) (fun hc => ?_)
                · rw [if_neg hc] at h
                  refine ru_iload_n ddX11_slip_80 rfl ?_
                  refine ru_wk (L2 := [some (rurf E 83), some (.int x1), none, none, none]) ⟨rfl, rfl, trivial⟩ ?_
                  obtain rfl := ruS1 h
                  exact J
                · rw [if_pos hc] at h
                  refine ru_iconst (0 : Int32) ddX11_slip_76 rfl ?_
                  refine ru_goto 81 ddX11_slip_77 (by decide) ?_
                  refine ru_wk (L2 := [some (rurf E 83), some (.int x1), none, none, none]) ⟨rfl, rfl, trivial⟩ ?_
                  obtain rfl := ruS1 h
                  exact J
              · rw [if_neg hc] at h
                refine ru_aload_n ddX11_slip_53 rfl ?_
                refine ru_ldc (v := (-1000001 : Int32)) ddX11_slip_54 ckX11_65 ?_
                obtain ⟨v37, A38, hv, h⟩ := ruB2_inv h
                refine ru_callVi (as := [.int (-1000001 : Int32)]) (st := []) ddX11_slip_56 cvX11_82 rfl (wX11_finding 1 (Nat.le_refl _) (-1000001 : Int32) A hv) rfl (Nat.le_trans (m := 3) (by decide) hd) (Nat.le_of_ble_eq_true rfl) ?_
                clear hv
                exact ru_iretW ddX11_slip_59 rfl h
            · rw [if_neg hc] at h
              refine ru_aload_n ddX11_slip_40 rfl ?_
              refine ru_ldc (v := (-1000007 : Int32)) ddX11_slip_41 ckX11_119 ?_
              obtain ⟨v39, A40, hv, h⟩ := ruB2_inv h
              refine ru_callVi (as := [.int (-1000007 : Int32)]) (st := []) ddX11_slip_43 cvX11_82 rfl (wX11_finding 1 (Nat.le_refl _) (-1000007 : Int32) A hv) rfl (Nat.le_trans (m := 3) (by decide) hd) (Nat.le_of_ble_eq_true rfl) ?_
              clear hv
              exact ru_iretW ddX11_slip_46 rfl h
          · rw [if_neg hc] at h
            refine ru_aload_n ddX11_slip_29 rfl ?_
            refine ru_ldc (v := (-1000001 : Int32)) ddX11_slip_30 ckX11_65 ?_
            obtain ⟨v41, A42, hv, h⟩ := ruB2_inv h
            refine ru_callVi (as := [.int (-1000001 : Int32)]) (st := []) ddX11_slip_32 cvX11_82 rfl (wX11_finding 1 (Nat.le_refl _) (-1000001 : Int32) A hv) rfl (Nat.le_trans (m := 3) (by decide) hd) (Nat.le_of_ble_eq_true rfl) ?_
            clear hv
            exact ru_iretW ddX11_slip_35 rfl h
theorem wX11_cut {E : ruE} (d : Nat) (hd : 1 ≤ d) (x0 : Int32) (x1 : Int32) (A : ruA) {r : Int32} (h : fX11_cut x0 x1 = some r) : ruC E mmX11_cut d [.int x0, .int x1] A (ruPr r A) := by
  refine ruC.of (L := [some (.int x0), some (.int x1)]) (by decide) rfl (Nat.le_of_ble_eq_true rfl) rfl ?_
  unfold fX11_cut at h
  refine ru_iload_n ddX11_cut_0 rfl ?_
  refine ru_bipush (8 : Int32) ddX11_cut_1 rfl ?_
  refine ru_icmp_ne 11 ddX11_cut_3 (by decide) (fun hc => ?_) (fun hc => ?_)
  · rw [if_neg hc] at h
    refine ru_iload_n ddX11_cut_11 rfl ?_
    refine ru_bipush (16 : Int32) ddX11_cut_12 rfl ?_
    refine ru_icmp_ne 22 ddX11_cut_14 (by decide) (fun hc => ?_) (fun hc => ?_)
    · rw [if_neg hc] at h
      refine ru_iload_n ddX11_cut_22 rfl ?_
      exact ru_iretP ddX11_cut_23 rfl h
    · rw [if_pos hc] at h
      refine ru_iload_n ddX11_cut_17 rfl ?_
      refine ru_i2s ddX11_cut_18 ?_
      refine ru_goto 23 ddX11_cut_19 (by decide) ?_
      exact ru_iretP ddX11_cut_23 rfl h
  · rw [if_pos hc] at h
    refine ru_iload_n ddX11_cut_6 rfl ?_
    refine ru_i2b ddX11_cut_7 ?_
    refine ru_goto 23 ddX11_cut_8 (by decide) ?_
    exact ru_iretP ddX11_cut_23 rfl h
theorem wX11_write {E : ruE} (d : Nat) (hd : 3 ≤ d) (x1 : Int32) (x2 : Int32) (x3 : Int32) (A : ruA) {r : Int32} {B : ruA} (h : fX11_write x1 x2 x3 A = some (r, B)) : ruC E mmX11_write d [rurf E 83, .int x1, .int x2, .int x3] A (ruPr r B) := by
  refine ruC.of (L := [some (rurf E 83), some (.int x1), some (.int x2), some (.int x3)]) (by decide) rfl (Nat.le_of_ble_eq_true rfl) rfl ?_
  unfold fX11_write at h
  refine ru_iload_n ddX11_write_0 rfl ?_
  obtain ⟨v1, hv, h⟩ := ruB_inv h
  refine ru_callSi (as := [.int x1]) (st := []) ddX11_write_1 csX11_115 (wX11_isSlip 2 (Nat.le_refl _) x1 A hv) rfl (Nat.le_trans (m := 3) (by decide) hd) (Nat.le_of_ble_eq_true rfl) ?_
  clear hv
  refine ru_if_ne 14 ddX11_write_4 (by decide) (fun hc => ?_) (fun hc => ?_)
  · rw [if_neg hc] at h
    refine ru_aload_n ddX11_write_14 rfl ?_
    refine ru_getR (r := 88) ddX11_write_15 flX11_22 rfl rfl ?_
    refine ru_iload_n ddX11_write_18 rfl ?_
    obtain ⟨v2, hv, h⟩ := ruB_inv h
    refine ru_iald ddX11_write_19 rfl hv ?_
    clear hv
    refine ru_if_ne 30 ddX11_write_20 (by decide) (fun hc => ?_) (fun hc => ?_)
    · rw [if_neg hc] at h
      refine ru_iload_n ddX11_write_30 rfl ?_
      refine ru_iconst (0 : Int32) ddX11_write_31 rfl ?_
      refine ru_aload_n ddX11_write_32 rfl ?_
      refine ru_getR (r := 89) ddX11_write_33 flX11_25 rfl rfl ?_
      refine ru_iload_n ddX11_write_36 rfl ?_
      obtain ⟨v3, hv, h⟩ := ruB_inv h
      refine ru_iald ddX11_write_37 rfl hv ?_
      clear hv
      refine ru_iconst (1 : Int32) ddX11_write_38 rfl ?_
      refine ru_isub ddX11_write_39 ?_
      obtain ⟨v4, hv, h⟩ := ruB_inv h
      refine ru_callSi (as := [.int x2, .int (0 : Int32), .int (v3 - (1 : Int32))]) (st := []) ddX11_write_40 csX11_66 (wX11_within 1 (Nat.le_refl _) x2 (0 : Int32) (v3 - (1 : Int32)) A hv) rfl (Nat.le_trans (m := 3) (by decide) hd) (Nat.le_of_ble_eq_true rfl) ?_
      clear hv
      refine ru_if_ne 53 ddX11_write_43 (by decide) (fun hc => ?_) (fun hc => ?_)
      · rw [if_neg hc] at h
        refine ru_aload_n ddX11_write_53 rfl ?_
        refine ru_getR (r := 90) ddX11_write_54 flX11_28 rfl rfl ?_
        refine ru_bipush (24 : Int32) ddX11_write_57 rfl ?_
        refine ru_iload_n ddX11_write_59 rfl ?_
        refine ru_imul ddX11_write_60 ?_
        refine ru_iload_n ddX11_write_61 rfl ?_
        refine ru_iadd ddX11_write_62 ?_
        refine ru_iload_n ddX11_write_63 rfl ?_
        refine ru_aload_n ddX11_write_64 rfl ?_
        refine ru_getR (r := 88) ddX11_write_65 flX11_22 rfl rfl ?_
        refine ru_iload_n ddX11_write_68 rfl ?_
        obtain ⟨v5, hv, h⟩ := ruB_inv h
        refine ru_iald ddX11_write_69 rfl hv ?_
        clear hv
        obtain ⟨v6, hv, h⟩ := ruB_inv h
        refine ru_callSi (as := [.int x3, .int v5]) (st := [.int (((24 : Int32) * x1) + x2), rurf E 90]) ddX11_write_70 csX11_264 (wX11_cut 1 (Nat.le_refl _) x3 v5 A hv) rfl (Nat.le_trans (m := 3) (by decide) hd) (Nat.le_of_ble_eq_true rfl) ?_
        clear hv
        obtain ⟨A7, hv, h⟩ := ruB_inv h
        refine ru_iast ddX11_write_73 rfl hv ?_
        clear hv
        refine ru_iconst (1 : Int32) ddX11_write_74 rfl ?_
        exact ru_iretW ddX11_write_75 rfl h
      · rw [if_pos hc] at h
        refine ru_aload_n ddX11_write_46 rfl ?_
        refine ru_ldc (v := (-1000001 : Int32)) ddX11_write_47 ckX11_65 ?_
        obtain ⟨v8, A9, hv, h⟩ := ruB2_inv h
        refine ru_callVi (as := [.int (-1000001 : Int32)]) (st := []) ddX11_write_49 cvX11_82 rfl (wX11_finding 1 (Nat.le_refl _) (-1000001 : Int32) A hv) rfl (Nat.le_trans (m := 3) (by decide) hd) (Nat.le_of_ble_eq_true rfl) ?_
        clear hv
        exact ru_iretW ddX11_write_52 rfl h
    · rw [if_pos hc] at h
      refine ru_aload_n ddX11_write_23 rfl ?_
      refine ru_ldc (v := (-1000006 : Int32)) ddX11_write_24 ckX11_118 ?_
      obtain ⟨v10, A11, hv, h⟩ := ruB2_inv h
      refine ru_callVi (as := [.int (-1000006 : Int32)]) (st := []) ddX11_write_26 cvX11_82 rfl (wX11_finding 1 (Nat.le_refl _) (-1000006 : Int32) A hv) rfl (Nat.le_trans (m := 3) (by decide) hd) (Nat.le_of_ble_eq_true rfl) ?_
      clear hv
      exact ru_iretW ddX11_write_29 rfl h
  · rw [if_pos hc] at h
    refine ru_aload_n ddX11_write_7 rfl ?_
    refine ru_ldc (v := (-1000001 : Int32)) ddX11_write_8 ckX11_65 ?_
    obtain ⟨v12, A13, hv, h⟩ := ruB2_inv h
    refine ru_callVi (as := [.int (-1000001 : Int32)]) (st := []) ddX11_write_10 cvX11_82 rfl (wX11_finding 1 (Nat.le_refl _) (-1000001 : Int32) A hv) rfl (Nat.le_trans (m := 3) (by decide) hd) (Nat.le_of_ble_eq_true rfl) ?_
    clear hv
    exact ru_iretW ddX11_write_13 rfl h
theorem wX11_copy_l127 {E : ruE} {d : Nat} (hd : 3 ≤ d) {β : Type} {Q : Option Value → ruA → Prop} {res : β} (x1 : Int32) (x2 : Int32) (x3 : Int32) (x4 : Int32) (x5 : Int32) {k161 : ruA → Option (β)} (hk161 : ∀ (A : ruA), k161 A = some res → ruW E mmX11_copy d Q 161 [some (rurf E 83), none, none, some (.int x3), some (.int x4), some (.int x5), none] [] A) : ∀ (n : Nat) (x6 : Int32) (A : ruA), fX11_copy_l127 x1 x2 x3 x4 x5 k161 n x6 A = some res → ruW E mmX11_copy d Q 127 [some (rurf E 83), some (.int x1), some (.int x2), some (.int x3), some (.int x4), some (.int x5), some (.int x6)] [] A := by
  intro n
  induction n with
  | zero =>
    intro x6 A h
    exact absurd h (by rw [fX11_copy_l127]; exact fun h => nomatch h)
  | succ n ih =>
    intro x6 A h
    rw [fX11_copy_l127] at h
    refine ru_iload ddX11_copy_127 rfl ?_
    refine ru_iload ddX11_copy_129 rfl ?_
    refine ru_icmp_ge 161 ddX11_copy_131 (by decide) (fun hc => ?_) (fun hc => ?_)
    · rw [if_pos hc] at h
      refine ru_wk (L2 := [some (rurf E 83), none, none, some (.int x3), some (.int x4), some (.int x5), none]) ⟨rfl, rfl, rfl, rfl, trivial⟩ ?_
      exact hk161 A h
    · rw [if_neg hc] at h
      refine ru_aload_n ddX11_copy_134 rfl ?_
      refine ru_getR (r := 96) ddX11_copy_135 flX11_62 rfl rfl ?_
      refine ru_iload ddX11_copy_138 rfl ?_
      refine ru_aload_n ddX11_copy_140 rfl ?_
      refine ru_getR (r := 90) ddX11_copy_141 flX11_28 rfl rfl ?_
      refine ru_bipush (24 : Int32) ddX11_copy_144 rfl ?_
      refine ru_iload_n ddX11_copy_146 rfl ?_
      refine ru_imul ddX11_copy_147 ?_
      refine ru_iload_n ddX11_copy_148 rfl ?_
      refine ru_iadd ddX11_copy_149 ?_
      refine ru_iload ddX11_copy_150 rfl ?_
      refine ru_iadd ddX11_copy_152 ?_
      obtain ⟨v21, hv, h⟩ := ruB_inv h
      refine ru_iald ddX11_copy_153 rfl hv ?_
      clear hv
      obtain ⟨A22, hv, h⟩ := ruB_inv h
      refine ru_iast ddX11_copy_154 rfl hv ?_
      clear hv
      refine ru_iinc (x6 + (1 : Int32)) ddX11_copy_155 (by decide) rfl rfl rfl rfl ?_
      refine ru_goto 127 ddX11_copy_158 (by decide) ?_
      exact ih (x6 + (1 : Int32)) A22 h
theorem wX11_copy_l164 {E : ruE} {d : Nat} (hd : 3 ≤ d) {β : Type} {Q : Option Value → ruA → Prop} {res : β} (x3 : Int32) (x4 : Int32) (x5 : Int32) {k199 : ruA → Option (β)} (hk199 : ∀ (A : ruA), k199 A = some res → ruW E mmX11_copy d Q 199 [none, none, none, none, none, some (.int x5), none] [] A) : ∀ (n : Nat) (x6 : Int32) (A : ruA), fX11_copy_l164 x3 x4 x5 k199 n x6 A = some res → ruW E mmX11_copy d Q 164 [some (rurf E 83), none, none, some (.int x3), some (.int x4), some (.int x5), some (.int x6)] [] A := by
  intro n
  induction n with
  | zero =>
    intro x6 A h
    exact absurd h (by rw [fX11_copy_l164]; exact fun h => nomatch h)
  | succ n ih =>
    intro x6 A h
    rw [fX11_copy_l164] at h
    refine ru_iload ddX11_copy_164 rfl ?_
    refine ru_iload ddX11_copy_166 rfl ?_
    refine ru_icmp_ge 199 ddX11_copy_168 (by decide) (fun hc => ?_) (fun hc => ?_)
    · rw [if_pos hc] at h
      refine ru_wk (L2 := [none, none, none, none, none, some (.int x5), none]) ⟨rfl, trivial⟩ ?_
      exact hk199 A h
    · rw [if_neg hc] at h
      refine ru_aload_n ddX11_copy_171 rfl ?_
      refine ru_getR (r := 90) ddX11_copy_172 flX11_28 rfl rfl ?_
      refine ru_bipush (24 : Int32) ddX11_copy_175 rfl ?_
      refine ru_iload_n ddX11_copy_177 rfl ?_
      refine ru_imul ddX11_copy_178 ?_
      refine ru_iload ddX11_copy_179 rfl ?_
      refine ru_iadd ddX11_copy_181 ?_
      refine ru_iload ddX11_copy_182 rfl ?_
      refine ru_iadd ddX11_copy_184 ?_
      refine ru_aload_n ddX11_copy_185 rfl ?_
      refine ru_getR (r := 96) ddX11_copy_186 flX11_62 rfl rfl ?_
      refine ru_iload ddX11_copy_189 rfl ?_
      obtain ⟨v24, hv, h⟩ := ruB_inv h
      refine ru_iald ddX11_copy_191 rfl hv ?_
      clear hv
      obtain ⟨A25, hv, h⟩ := ruB_inv h
      refine ru_iast ddX11_copy_192 rfl hv ?_
      clear hv
      refine ru_iinc (x6 + (1 : Int32)) ddX11_copy_193 (by decide) rfl rfl rfl rfl ?_
      refine ru_goto 164 ddX11_copy_196 (by decide) ?_
      exact ih (x6 + (1 : Int32)) A25 h
theorem wX11_copy {E : ruE} (d : Nat) (hd : 3 ≤ d) (x1 : Int32) (x2 : Int32) (x3 : Int32) (x4 : Int32) (x5 : Int32) (A : ruA) {r : Int32} {B : ruA} (h : fX11_copy x1 x2 x3 x4 x5 A = some (r, B)) : ruC E mmX11_copy d [rurf E 83, .int x1, .int x2, .int x3, .int x4, .int x5] A (ruPr r B) := by
  refine ruC.of (L := [some (rurf E 83), some (.int x1), some (.int x2), some (.int x3), some (.int x4), some (.int x5), none]) (by decide) rfl (Nat.le_of_ble_eq_true rfl) rfl ?_
  unfold fX11_copy at h
  refine ru_iload_n ddX11_copy_0 rfl ?_
  obtain ⟨v1, hv, h⟩ := ruB_inv h
  refine ru_callSi (as := [.int x1]) (st := []) ddX11_copy_1 csX11_115 (wX11_isSlip 2 (Nat.le_refl _) x1 A hv) rfl (Nat.le_trans (m := 3) (by decide) hd) (Nat.le_of_ble_eq_true rfl) ?_
  clear hv
  refine ru_if_eq 14 ddX11_copy_4 (by decide) (fun hc => ?_) (fun hc => ?_)
  · rw [if_pos hc] at h
    refine ru_aload_n ddX11_copy_14 rfl ?_
    refine ru_ldc (v := (-1000001 : Int32)) ddX11_copy_15 ckX11_65 ?_
    obtain ⟨v2, A3, hv, h⟩ := ruB2_inv h
    refine ru_callVi (as := [.int (-1000001 : Int32)]) (st := []) ddX11_copy_17 cvX11_82 rfl (wX11_finding 1 (Nat.le_refl _) (-1000001 : Int32) A hv) rfl (Nat.le_trans (m := 3) (by decide) hd) (Nat.le_of_ble_eq_true rfl) ?_
    clear hv
    exact ru_iretW ddX11_copy_20 rfl h
  · rw [if_neg hc] at h
    refine ru_iload_n ddX11_copy_7 rfl ?_
    obtain ⟨v4, hv, h⟩ := ruB_inv h
    refine ru_callSi (as := [.int x3]) (st := []) ddX11_copy_8 csX11_115 (wX11_isSlip 2 (Nat.le_refl _) x3 A hv) rfl (Nat.le_trans (m := 3) (by decide) hd) (Nat.le_of_ble_eq_true rfl) ?_
    clear hv
    refine ru_if_ne 21 ddX11_copy_11 (by decide) (fun hc => ?_) (fun hc => ?_)
    · rw [if_neg hc] at h
      refine ru_aload_n ddX11_copy_21 rfl ?_
      refine ru_getR (r := 88) ddX11_copy_22 flX11_22 rfl rfl ?_
      refine ru_iload_n ddX11_copy_25 rfl ?_
      obtain ⟨v5, hv, h⟩ := ruB_inv h
      refine ru_iald ddX11_copy_26 rfl hv ?_
      clear hv
      refine ru_if_eq 39 ddX11_copy_27 (by decide) (fun hc => ?_) (fun hc => ?_)
      · rw [if_pos hc] at h
        refine ru_aload_n ddX11_copy_39 rfl ?_
        refine ru_ldc (v := (-1000006 : Int32)) ddX11_copy_40 ckX11_118 ?_
        obtain ⟨v6, A7, hv, h⟩ := ruB2_inv h
        refine ru_callVi (as := [.int (-1000006 : Int32)]) (st := []) ddX11_copy_42 cvX11_82 rfl (wX11_finding 1 (Nat.le_refl _) (-1000006 : Int32) A hv) rfl (Nat.le_trans (m := 3) (by decide) hd) (Nat.le_of_ble_eq_true rfl) ?_
        clear hv
        exact ru_iretW ddX11_copy_45 rfl h
      · rw [if_neg hc] at h
        refine ru_aload_n ddX11_copy_30 rfl ?_
        refine ru_getR (r := 88) ddX11_copy_31 flX11_22 rfl rfl ?_
        refine ru_iload_n ddX11_copy_34 rfl ?_
        obtain ⟨v8, hv, h⟩ := ruB_inv h
        refine ru_iald ddX11_copy_35 rfl hv ?_
        clear hv
        refine ru_if_ne 46 ddX11_copy_36 (by decide) (fun hc => ?_) (fun hc => ?_)
        · rw [if_neg hc] at h
          refine ru_aload_n ddX11_copy_46 rfl ?_
          refine ru_getR (r := 88) ddX11_copy_47 flX11_22 rfl rfl ?_
          refine ru_iload_n ddX11_copy_50 rfl ?_
          obtain ⟨v9, hv, h⟩ := ruB_inv h
          refine ru_iald ddX11_copy_51 rfl hv ?_
          clear hv
          refine ru_aload_n ddX11_copy_52 rfl ?_
          refine ru_getR (r := 88) ddX11_copy_53 flX11_22 rfl rfl ?_
          refine ru_iload_n ddX11_copy_56 rfl ?_
          obtain ⟨v10, hv, h⟩ := ruB_inv h
          refine ru_iald ddX11_copy_57 rfl hv ?_
          clear hv
          refine ru_icmp_eq 68 ddX11_copy_58 (by decide) (fun hc => ?_) (fun hc => ?_)
          · rw [if_pos hc] at h
            refine ru_iload_n ddX11_copy_68 rfl ?_
            refine ru_if_lt 117 ddX11_copy_69 (by decide) (fun hc => ?_) (fun hc => ?_)
            · rw [if_pos hc] at h
              refine ru_aload_n ddX11_copy_117 rfl ?_
              refine ru_ldc (v := (-1000001 : Int32)) ddX11_copy_118 ckX11_65 ?_
              obtain ⟨v11, A12, hv, h⟩ := ruB2_inv h
              refine ru_callVi (as := [.int (-1000001 : Int32)]) (st := []) ddX11_copy_120 cvX11_82 rfl (wX11_finding 1 (Nat.le_refl _) (-1000001 : Int32) A hv) rfl (Nat.le_trans (m := 3) (by decide) hd) (Nat.le_of_ble_eq_true rfl) ?_
              clear hv
              exact ru_iretW ddX11_copy_123 rfl h
            · rw [if_neg hc] at h
              refine ru_iload ddX11_copy_72 rfl ?_
              refine ru_if_lt 117 ddX11_copy_74 (by decide) (fun hc => ?_) (fun hc => ?_)
              · rw [if_pos hc] at h
                refine ru_aload_n ddX11_copy_117 rfl ?_
                refine ru_ldc (v := (-1000001 : Int32)) ddX11_copy_118 ckX11_65 ?_
                obtain ⟨v13, A14, hv, h⟩ := ruB2_inv h
                refine ru_callVi (as := [.int (-1000001 : Int32)]) (st := []) ddX11_copy_120 cvX11_82 rfl (wX11_finding 1 (Nat.le_refl _) (-1000001 : Int32) A hv) rfl (Nat.le_trans (m := 3) (by decide) hd) (Nat.le_of_ble_eq_true rfl) ?_
                clear hv
                exact ru_iretW ddX11_copy_123 rfl h
              · rw [if_neg hc] at h
                refine ru_iload ddX11_copy_77 rfl ?_
                refine ru_if_lt 117 ddX11_copy_79 (by decide) (fun hc => ?_) (fun hc => ?_)
                · rw [if_pos hc] at h
                  refine ru_aload_n ddX11_copy_117 rfl ?_
                  refine ru_ldc (v := (-1000001 : Int32)) ddX11_copy_118 ckX11_65 ?_
                  obtain ⟨v15, A16, hv, h⟩ := ruB2_inv h
                  refine ru_callVi (as := [.int (-1000001 : Int32)]) (st := []) ddX11_copy_120 cvX11_82 rfl (wX11_finding 1 (Nat.le_refl _) (-1000001 : Int32) A hv) rfl (Nat.le_trans (m := 3) (by decide) hd) (Nat.le_of_ble_eq_true rfl) ?_
                  clear hv
                  exact ru_iretW ddX11_copy_123 rfl h
                · rw [if_neg hc] at h
                  refine ru_iload_n ddX11_copy_82 rfl ?_
                  refine ru_i2l ddX11_copy_83 ?_
                  refine ru_iload ddX11_copy_84 rfl ?_
                  refine ru_i2l ddX11_copy_86 ?_
                  refine ru_ladd ddX11_copy_87 ?_
                  refine ru_aload_n ddX11_copy_88 rfl ?_
                  refine ru_getR (r := 89) ddX11_copy_89 flX11_25 rfl rfl ?_
                  refine ru_iload_n ddX11_copy_92 rfl ?_
                  obtain ⟨v17, hv, h⟩ := ruB_inv h
                  refine ru_iald ddX11_copy_93 rfl hv ?_
                  clear hv
                  refine ru_i2l ddX11_copy_94 ?_
                  refine ru_lcmp ddX11_copy_95 ?_
                  refine ru_if_gt 117 ddX11_copy_96 (by decide) (fun hc => ?_) (fun hc => ?_)
                  · rw [if_pos hc] at h
                    refine ru_aload_n ddX11_copy_117 rfl ?_
                    refine ru_ldc (v := (-1000001 : Int32)) ddX11_copy_118 ckX11_65 ?_
                    obtain ⟨v18, A19, hv, h⟩ := ruB2_inv h
                    refine ru_callVi (as := [.int (-1000001 : Int32)]) (st := []) ddX11_copy_120 cvX11_82 rfl (wX11_finding 1 (Nat.le_refl _) (-1000001 : Int32) A hv) rfl (Nat.le_trans (m := 3) (by decide) hd) (Nat.le_of_ble_eq_true rfl) ?_
                    clear hv
                    exact ru_iretW ddX11_copy_123 rfl h
                  · rw [if_neg hc] at h
                    refine ru_iload ddX11_copy_99 rfl ?_
                    refine ru_i2l ddX11_copy_101 ?_
                    refine ru_iload ddX11_copy_102 rfl ?_
                    refine ru_i2l ddX11_copy_104 ?_
                    refine ru_ladd ddX11_copy_105 ?_
                    refine ru_aload_n ddX11_copy_106 rfl ?_
                    refine ru_getR (r := 89) ddX11_copy_107 flX11_25 rfl rfl ?_
                    refine ru_iload_n ddX11_copy_110 rfl ?_
                    obtain ⟨v20, hv, h⟩ := ruB_inv h
                    refine ru_iald ddX11_copy_111 rfl hv ?_
                    clear hv
                    refine ru_i2l ddX11_copy_112 ?_
                    refine ru_lcmp ddX11_copy_113 ?_
                    refine ru_if_le 124 ddX11_copy_114 (by decide) (fun hc => ?_) (fun hc => ?_)
                    · rw [if_pos hc] at h
                      refine ru_iconst (0 : Int32) ddX11_copy_124 rfl ?_
                      refine ru_istore ddX11_copy_125 (by decide) rfl rfl ?_
                      exact wX11_copy_l127 hd x1 x2 x3 x4 x5 (fun A23 h => by
                            refine ru_iconst (0 : Int32) ddX11_copy_161 rfl ?_
                            refine ru_istore ddX11_copy_162 (by decide) rfl rfl ?_
                            exact wX11_copy_l164 hd x3 x4 x5 (fun A26 h => by
                                  refine ru_iload ddX11_copy_199 rfl ?_
                                  exact ru_iretW ddX11_copy_201 rfl h) ruF (0 : Int32) A23 h) ruF (0 : Int32) A h
                    · rw [if_neg hc] at h
                      refine ru_aload_n ddX11_copy_117 rfl ?_
                      refine ru_ldc (v := (-1000001 : Int32)) ddX11_copy_118 ckX11_65 ?_
                      obtain ⟨v27, A28, hv, h⟩ := ruB2_inv h
                      refine ru_callVi (as := [.int (-1000001 : Int32)]) (st := []) ddX11_copy_120 cvX11_82 rfl (wX11_finding 1 (Nat.le_refl _) (-1000001 : Int32) A hv) rfl (Nat.le_trans (m := 3) (by decide) hd) (Nat.le_of_ble_eq_true rfl) ?_
                      clear hv
                      exact ru_iretW ddX11_copy_123 rfl h
          · rw [if_neg hc] at h
            refine ru_aload_n ddX11_copy_61 rfl ?_
            refine ru_ldc (v := (-1000003 : Int32)) ddX11_copy_62 ckX11_149 ?_
            obtain ⟨v29, A30, hv, h⟩ := ruB2_inv h
            refine ru_callVi (as := [.int (-1000003 : Int32)]) (st := []) ddX11_copy_64 cvX11_82 rfl (wX11_finding 1 (Nat.le_refl _) (-1000003 : Int32) A hv) rfl (Nat.le_trans (m := 3) (by decide) hd) (Nat.le_of_ble_eq_true rfl) ?_
            clear hv
            exact ru_iretW ddX11_copy_67 rfl h
        · rw [if_pos hc] at h
          refine ru_aload_n ddX11_copy_39 rfl ?_
          refine ru_ldc (v := (-1000006 : Int32)) ddX11_copy_40 ckX11_118 ?_
          obtain ⟨v31, A32, hv, h⟩ := ruB2_inv h
          refine ru_callVi (as := [.int (-1000006 : Int32)]) (st := []) ddX11_copy_42 cvX11_82 rfl (wX11_finding 1 (Nat.le_refl _) (-1000006 : Int32) A hv) rfl (Nat.le_trans (m := 3) (by decide) hd) (Nat.le_of_ble_eq_true rfl) ?_
          clear hv
          exact ru_iretW ddX11_copy_45 rfl h
    · rw [if_pos hc] at h
      refine ru_aload_n ddX11_copy_14 rfl ?_
      refine ru_ldc (v := (-1000001 : Int32)) ddX11_copy_15 ckX11_65 ?_
      obtain ⟨v33, A34, hv, h⟩ := ruB2_inv h
      refine ru_callVi (as := [.int (-1000001 : Int32)]) (st := []) ddX11_copy_17 cvX11_82 rfl (wX11_finding 1 (Nat.le_refl _) (-1000001 : Int32) A hv) rfl (Nat.le_trans (m := 3) (by decide) hd) (Nat.le_of_ble_eq_true rfl) ?_
      clear hv
      exact ru_iretW ddX11_copy_20 rfl h
theorem wX11_check_l65 {E : ruE} {d : Nat} (hd : 7 ≤ d) {β : Type} {Q : Option Value → ruA → Prop} {res : β} (x1 : Int32) (x2 : Int32) (x3 : Int32) {k112 : Int32 → ruA → Option (β)} (hk112 : ∀ (x4 : Int32) (A : ruA), k112 x4 A = some res → ruW E mmX11_check d Q 112 [none, none, none, none, some (.int x4)] [] A) : ∀ (n : Nat) (x4 : Int32) (A : ruA), fX11_check_l65 x1 x2 x3 k112 n x4 A = some res → ruW E mmX11_check d Q 65 [some (rurf E 83), some (.int x1), some (.int x2), some (.int x3), some (.int x4)] [] A := by
  intro n
  induction n with
  | zero =>
    intro x4 A h
    exact absurd h (by rw [fX11_check_l65]; exact fun h => nomatch h)
  | succ n ih =>
    intro x4 A h
    rw [fX11_check_l65] at h
    refine ru_iload ddX11_check_65 rfl ?_
    refine ru_aload_n ddX11_check_67 rfl ?_
    refine ru_getR (r := 89) ddX11_check_68 flX11_25 rfl rfl ?_
    refine ru_iload_n ddX11_check_71 rfl ?_
    obtain ⟨v10, hv, h⟩ := ruB_inv h
    refine ru_iald ddX11_check_72 rfl hv ?_
    clear hv
    refine ru_icmp_ge 112 ddX11_check_73 (by decide) (fun hc => ?_) (fun hc => ?_)
    · rw [if_pos hc] at h
      refine ru_wk (L2 := [none, none, none, none, some (.int x4)]) ⟨rfl, trivial⟩ ?_
      exact hk112 x4 A h
    · rw [if_neg hc] at h
      refine ru_iload ddX11_check_76 rfl ?_
      refine ru_bipush (7 : Int32) ddX11_check_78 rfl ?_
      refine ru_icmp_ge 112 ddX11_check_80 (by decide) (fun hc => ?_) (fun hc => ?_)
      · rw [if_pos hc] at h
        refine ru_wk (L2 := [none, none, none, none, some (.int x4)]) ⟨rfl, trivial⟩ ?_
        exact hk112 x4 A h
      · rw [if_neg hc] at h
        refine ru_aload_n ddX11_check_83 rfl ?_
        refine ru_getR (r := 90) ddX11_check_84 flX11_28 rfl rfl ?_
        refine ru_bipush (24 : Int32) ddX11_check_87 rfl ?_
        refine ru_iload_n ddX11_check_89 rfl ?_
        refine ru_imul ddX11_check_90 ?_
        refine ru_iload ddX11_check_91 rfl ?_
        refine ru_iadd ddX11_check_93 ?_
        obtain ⟨v11, hv, h⟩ := ruB_inv h
        refine ru_iald ddX11_check_94 rfl hv ?_
        clear hv
        refine ru_aload_n ddX11_check_95 rfl ?_
        refine ru_iload_n ddX11_check_96 rfl ?_
        refine ru_iload_n ddX11_check_97 rfl ?_
        refine ru_iload ddX11_check_98 rfl ?_
        obtain ⟨v12, A13, hv, h⟩ := ruB2_inv h
        refine ru_callVi (as := [.int x1, .int x2, .int x4]) (st := [.int v11]) ddX11_check_100 cvX11_180 rfl (wX11_measured 6 (Nat.le_refl _) x1 x2 x4 A hv) rfl (Nat.le_trans (m := 7) (by decide) hd) (Nat.le_of_ble_eq_true rfl) ?_
        clear hv
        refine ru_icmp_ne 112 ddX11_check_103 (by decide) (fun hc => ?_) (fun hc => ?_)
        · rw [if_neg hc] at h
          refine ru_wk (L2 := [none, none, none, none, some (.int x4)]) ⟨rfl, trivial⟩ ?_
          exact hk112 x4 A13 h
        · rw [if_pos hc] at h
          refine ru_iinc (x4 + (1 : Int32)) ddX11_check_106 (by decide) rfl rfl rfl rfl ?_
          refine ru_goto 65 ddX11_check_109 (by decide) ?_
          exact ih (x4 + (1 : Int32)) A13 h
theorem wX11_check {E : ruE} (d : Nat) (hd : 7 ≤ d) (x1 : Int32) (x2 : Int32) (x3 : Int32) (A : ruA) {r : Int32} {B : ruA} (h : fX11_check x1 x2 x3 A = some (r, B)) : ruC E mmX11_check d [rurf E 83, .int x1, .int x2, .int x3] A (ruPr r B) := by
  refine ruC.of (L := [some (rurf E 83), some (.int x1), some (.int x2), some (.int x3), none]) (by decide) rfl (Nat.le_of_ble_eq_true rfl) rfl ?_
  unfold fX11_check at h
  refine ru_aload_n ddX11_check_0 rfl ?_
  refine ru_iload_n ddX11_check_1 rfl ?_
  refine ru_iconst (1 : Int32) ddX11_check_2 rfl ?_
  obtain ⟨v1, hv, h⟩ := ruB_inv h
  refine ru_callVi (as := [.int x1, .int (1 : Int32)]) (st := []) ddX11_check_3 cvX11_87 rfl (wX11_is 2 (Nat.le_refl _) x1 (1 : Int32) A hv) rfl (Nat.le_trans (m := 7) (by decide) hd) (Nat.le_of_ble_eq_true rfl) ?_
  clear hv
  refine ru_if_eq 23 ddX11_check_6 (by decide) (fun hc => ?_) (fun hc => ?_)
  · rw [if_pos hc] at h
    refine ru_aload_n ddX11_check_23 rfl ?_
    refine ru_ldc (v := (-1000001 : Int32)) ddX11_check_24 ckX11_65 ?_
    obtain ⟨v2, A3, hv, h⟩ := ruB2_inv h
    refine ru_callVi (as := [.int (-1000001 : Int32)]) (st := []) ddX11_check_26 cvX11_82 rfl (wX11_finding 1 (Nat.le_refl _) (-1000001 : Int32) A hv) rfl (Nat.le_trans (m := 7) (by decide) hd) (Nat.le_of_ble_eq_true rfl) ?_
    clear hv
    exact ru_iretW ddX11_check_29 rfl h
  · rw [if_neg hc] at h
    refine ru_iload_n ddX11_check_9 rfl ?_
    obtain ⟨v4, hv, h⟩ := ruB_inv h
    refine ru_callSi (as := [.int x2]) (st := []) ddX11_check_10 csX11_128 (wX11_isYear 2 (Nat.le_refl _) x2 A hv) rfl (Nat.le_trans (m := 7) (by decide) hd) (Nat.le_of_ble_eq_true rfl) ?_
    clear hv
    refine ru_if_eq 23 ddX11_check_13 (by decide) (fun hc => ?_) (fun hc => ?_)
    · rw [if_pos hc] at h
      refine ru_aload_n ddX11_check_23 rfl ?_
      refine ru_ldc (v := (-1000001 : Int32)) ddX11_check_24 ckX11_65 ?_
      obtain ⟨v5, A6, hv, h⟩ := ruB2_inv h
      refine ru_callVi (as := [.int (-1000001 : Int32)]) (st := []) ddX11_check_26 cvX11_82 rfl (wX11_finding 1 (Nat.le_refl _) (-1000001 : Int32) A hv) rfl (Nat.le_trans (m := 7) (by decide) hd) (Nat.le_of_ble_eq_true rfl) ?_
      clear hv
      exact ru_iretW ddX11_check_29 rfl h
    · rw [if_neg hc] at h
      refine ru_iload_n ddX11_check_16 rfl ?_
      obtain ⟨v7, hv, h⟩ := ruB_inv h
      refine ru_callSi (as := [.int x3]) (st := []) ddX11_check_17 csX11_115 (wX11_isSlip 2 (Nat.le_refl _) x3 A hv) rfl (Nat.le_trans (m := 7) (by decide) hd) (Nat.le_of_ble_eq_true rfl) ?_
      clear hv
      refine ru_if_ne 30 ddX11_check_20 (by decide) (fun hc => ?_) (fun hc => ?_)
      · rw [if_neg hc] at h
        refine ru_aload_n ddX11_check_30 rfl ?_
        refine ru_getR (r := 88) ddX11_check_31 flX11_22 rfl rfl ?_
        refine ru_iload_n ddX11_check_34 rfl ?_
        obtain ⟨v8, hv, h⟩ := ruB_inv h
        refine ru_iald ddX11_check_35 rfl hv ?_
        clear hv
        refine ru_if_ne 46 ddX11_check_36 (by decide) (fun hc => ?_) (fun hc => ?_)
        · rw [if_neg hc] at h
          refine ru_aload_n ddX11_check_46 rfl ?_
          refine ru_iload_n ddX11_check_47 rfl ?_
          refine ru_iload_n ddX11_check_48 rfl ?_
          obtain ⟨v9, hv, h⟩ := ruB_inv h
          refine ru_callVi (as := [.int x1, .int x2]) (st := []) ddX11_check_49 cvX11_174 rfl (wX11_sheetsOf 4 (Nat.le_refl _) x1 x2 A hv) rfl (Nat.le_trans (m := 7) (by decide) hd) (Nat.le_of_ble_eq_true rfl) ?_
          clear hv
          refine ru_if_ne 62 ddX11_check_52 (by decide) (fun hc => ?_) (fun hc => ?_)
          · rw [if_neg hc] at h
            refine ru_iconst (0 : Int32) ddX11_check_62 rfl ?_
            refine ru_istore ddX11_check_63 (by decide) rfl rfl ?_
            exact wX11_check_l65 hd x1 x2 x3 (fun v14 A15 h => by
                  refine ru_iload ddX11_check_112 rfl ?_
                  exact ru_iretW ddX11_check_114 rfl h) ruF (0 : Int32) A h
          · rw [if_pos hc] at h
            refine ru_aload_n ddX11_check_55 rfl ?_
            refine ru_ldc (v := (-1000004 : Int32)) ddX11_check_56 ckX11_127 ?_
            obtain ⟨v16, A17, hv, h⟩ := ruB2_inv h
            refine ru_callVi (as := [.int (-1000004 : Int32)]) (st := []) ddX11_check_58 cvX11_82 rfl (wX11_finding 1 (Nat.le_refl _) (-1000004 : Int32) A hv) rfl (Nat.le_trans (m := 7) (by decide) hd) (Nat.le_of_ble_eq_true rfl) ?_
            clear hv
            exact ru_iretW ddX11_check_61 rfl h
        · rw [if_pos hc] at h
          refine ru_aload_n ddX11_check_39 rfl ?_
          refine ru_ldc (v := (-1000006 : Int32)) ddX11_check_40 ckX11_118 ?_
          obtain ⟨v18, A19, hv, h⟩ := ruB2_inv h
          refine ru_callVi (as := [.int (-1000006 : Int32)]) (st := []) ddX11_check_42 cvX11_82 rfl (wX11_finding 1 (Nat.le_refl _) (-1000006 : Int32) A hv) rfl (Nat.le_trans (m := 7) (by decide) hd) (Nat.le_of_ble_eq_true rfl) ?_
          clear hv
          exact ru_iretW ddX11_check_45 rfl h
      · rw [if_pos hc] at h
        refine ru_aload_n ddX11_check_23 rfl ?_
        refine ru_ldc (v := (-1000001 : Int32)) ddX11_check_24 ckX11_65 ?_
        obtain ⟨v20, A21, hv, h⟩ := ruB2_inv h
        refine ru_callVi (as := [.int (-1000001 : Int32)]) (st := []) ddX11_check_26 cvX11_82 rfl (wX11_finding 1 (Nat.le_refl _) (-1000001 : Int32) A hv) rfl (Nat.le_trans (m := 7) (by decide) hd) (Nat.le_of_ble_eq_true rfl) ?_
        clear hv
        exact ru_iretW ddX11_check_29 rfl h
theorem wX11_image_l2 {E : ruE} {d : Nat} (hd : 1 ≤ d) {β : Type} {Q : Option Value → ruA → Prop} {res : β} {k27 : ruA → Option (β)} (hk27 : ∀ (A : ruA), k27 A = some res → ruW E mmX11_image d Q 27 [some (rurf E 83), none] [] A) : ∀ (n : Nat) (x1 : Int32) (A : ruA), fX11_image_l2 k27 n x1 A = some res → ruW E mmX11_image d Q 2 [some (rurf E 83), some (.int x1)] [] A := by
  intro n
  induction n with
  | zero =>
    intro x1 A h
    exact absurd h (by rw [fX11_image_l2]; exact fun h => nomatch h)
  | succ n ih =>
    intro x1 A h
    rw [fX11_image_l2] at h
    refine ru_iload_n ddX11_image_2 rfl ?_
    refine ru_sipush (4920 : Int32) ddX11_image_3 rfl ?_
    refine ru_icmp_ge 27 ddX11_image_6 (by decide) (fun hc => ?_) (fun hc => ?_)
    · rw [if_pos hc] at h
      refine ru_wk (L2 := [some (rurf E 83), none]) ⟨rfl, trivial⟩ ?_
      exact hk27 A h
    · rw [if_neg hc] at h
      refine ru_aload_n ddX11_image_9 rfl ?_
      refine ru_getR (r := 85) ddX11_image_10 flX11_13 rfl rfl ?_
      refine ru_iload_n ddX11_image_13 rfl ?_
      refine ru_aload_n ddX11_image_14 rfl ?_
      refine ru_getR (r := 84) ddX11_image_15 flX11_9 rfl rfl ?_
      refine ru_iload_n ddX11_image_18 rfl ?_
      obtain ⟨v1, hv, h⟩ := ruB_inv h
      refine ru_iald ddX11_image_19 rfl hv ?_
      clear hv
      obtain ⟨A2, hv, h⟩ := ruB_inv h
      refine ru_iast ddX11_image_20 rfl hv ?_
      clear hv
      refine ru_iinc (x1 + (1 : Int32)) ddX11_image_21 (by decide) rfl rfl rfl rfl ?_
      refine ru_goto 2 ddX11_image_24 (by decide) ?_
      exact ih (x1 + (1 : Int32)) A2 h
theorem wX11_image {E : ruE} (d : Nat) (hd : 1 ≤ d) (A : ruA) {r : Int32} {B : ruA} (h : fX11_image A = some (r, B)) : ruC E mmX11_image d [rurf E 83] A (ruPr r B) := by
  refine ruC.of (L := [some (rurf E 83), none]) (by decide) rfl (Nat.le_of_ble_eq_true rfl) rfl ?_
  unfold fX11_image at h
  refine ru_iconst (0 : Int32) ddX11_image_0 rfl ?_
  refine ru_istore_n ddX11_image_1 (by decide) rfl rfl ?_
  exact wX11_image_l2 hd (fun A3 h => by
        refine ru_aload_n ddX11_image_27 rfl ?_
        refine ru_iconst (1 : Int32) ddX11_image_28 rfl ?_
        obtain ⟨A4, hv, h⟩ := ruB_inv h
        refine ru_putZ2 ddX11_image_29 flX11_267 fp11_2 rfl (Or.inr rfl) hv ?_
        clear hv
        refine ru_iconst (1 : Int32) ddX11_image_32 rfl ?_
        exact ru_iretW ddX11_image_33 rfl h) ruF (0 : Int32) A h
theorem wX11_undo_l16 {E : ruE} {d : Nat} (hd : 2 ≤ d) {β : Type} {Q : Option Value → ruA → Prop} {res : β} {k41 : ruA → Option (β)} (hk41 : ∀ (A : ruA), k41 A = some res → ruW E mmX11_undo d Q 41 [some (rurf E 83), none] [] A) : ∀ (n : Nat) (x1 : Int32) (A : ruA), fX11_undo_l16 k41 n x1 A = some res → ruW E mmX11_undo d Q 16 [some (rurf E 83), some (.int x1)] [] A := by
  intro n
  induction n with
  | zero =>
    intro x1 A h
    exact absurd h (by rw [fX11_undo_l16]; exact fun h => nomatch h)
  | succ n ih =>
    intro x1 A h
    rw [fX11_undo_l16] at h
    refine ru_iload_n ddX11_undo_16 rfl ?_
    refine ru_sipush (4920 : Int32) ddX11_undo_17 rfl ?_
    refine ru_icmp_ge 41 ddX11_undo_20 (by decide) (fun hc => ?_) (fun hc => ?_)
    · rw [if_pos hc] at h
      refine ru_wk (L2 := [some (rurf E 83), none]) ⟨rfl, trivial⟩ ?_
      exact hk41 A h
    · rw [if_neg hc] at h
      refine ru_aload_n ddX11_undo_23 rfl ?_
      refine ru_getR (r := 84) ddX11_undo_24 flX11_9 rfl rfl ?_
      refine ru_iload_n ddX11_undo_27 rfl ?_
      refine ru_aload_n ddX11_undo_28 rfl ?_
      refine ru_getR (r := 85) ddX11_undo_29 flX11_13 rfl rfl ?_
      refine ru_iload_n ddX11_undo_32 rfl ?_
      obtain ⟨v1, hv, h⟩ := ruB_inv h
      refine ru_iald ddX11_undo_33 rfl hv ?_
      clear hv
      obtain ⟨A2, hv, h⟩ := ruB_inv h
      refine ru_iast ddX11_undo_34 rfl hv ?_
      clear hv
      refine ru_iinc (x1 + (1 : Int32)) ddX11_undo_35 (by decide) rfl rfl rfl rfl ?_
      refine ru_goto 16 ddX11_undo_38 (by decide) ?_
      exact ih (x1 + (1 : Int32)) A2 h
theorem wX11_undo {E : ruE} (d : Nat) (hd : 2 ≤ d) (A : ruA) {r : Int32} {B : ruA} (h : fX11_undo A = some (r, B)) : ruC E mmX11_undo d [rurf E 83] A (ruPr r B) := by
  refine ruC.of (L := [some (rurf E 83), none]) (by decide) rfl (Nat.le_of_ble_eq_true rfl) rfl ?_
  unfold fX11_undo at h
  refine ru_aload_n ddX11_undo_0 rfl ?_
  refine ru_getI ddX11_undo_1 flX11_267 rfl ?_
  refine ru_if_ne 14 ddX11_undo_4 (by decide) (fun hc => ?_) (fun hc => ?_)
  · rw [if_neg hc] at h
    refine ru_iconst (0 : Int32) ddX11_undo_14 rfl ?_
    refine ru_istore_n ddX11_undo_15 (by decide) rfl rfl ?_
    exact wX11_undo_l16 hd (fun A3 h => by
          refine ru_aload_n ddX11_undo_41 rfl ?_
          refine ru_getR (r := 84) ddX11_undo_42 flX11_9 rfl rfl ?_
          refine ru_iconst (0 : Int32) ddX11_undo_45 rfl ?_
          obtain ⟨v4, hv, h⟩ := ruB_inv h
          refine ru_iald ddX11_undo_46 rfl hv ?_
          clear hv
          exact ru_iretW ddX11_undo_47 rfl h) ruF (0 : Int32) A h
  · rw [if_pos hc] at h
    refine ru_aload_n ddX11_undo_7 rfl ?_
    refine ru_ldc (v := (-1000004 : Int32)) ddX11_undo_8 ckX11_127 ?_
    obtain ⟨v5, A6, hv, h⟩ := ruB2_inv h
    refine ru_callVi (as := [.int (-1000004 : Int32)]) (st := []) ddX11_undo_10 cvX11_82 rfl (wX11_finding 1 (Nat.le_refl _) (-1000004 : Int32) A hv) rfl (Nat.le_trans (m := 2) (by decide) hd) (Nat.le_of_ble_eq_true rfl) ?_
    clear hv
    exact ru_iretW ddX11_undo_13 rfl h
theorem wX11_tear {E : ruE} (d : Nat) (hd : 1 ≤ d) (A : ruA) {r : Int32} {B : ruA} (h : fX11_tear A = some (r, B)) : ruC E mmX11_tear d [rurf E 83] A (ruPr r B) := by
  refine ruC.of (L := [some (rurf E 83), none]) (by decide) rfl (Nat.le_of_ble_eq_true rfl) rfl ?_
  unfold fX11_tear at h
  refine ru_aload_n ddX11_tear_0 rfl ?_
  refine ru_getI ddX11_tear_1 flX11_267 rfl ?_
  obtain ⟨v1, hq, h⟩ := ruB_inv h
  have J : ruW E mmX11_tear d (ruPr r B) 12 [some (rurf E 83), none] [.int v1] A := by
      refine ru_istore_n ddX11_tear_12 (by decide) rfl rfl ?_
      refine ru_aload_n ddX11_tear_13 rfl ?_
      refine ru_iconst (0 : Int32) ddX11_tear_14 rfl ?_
      obtain ⟨A2, hv, h⟩ := ruB_inv h
      refine ru_putZ2 ddX11_tear_15 flX11_267 fp11_2 rfl (Or.inl rfl) hv ?_
      clear hv
      refine ru_iload_n ddX11_tear_18 rfl ?_
      exact ru_iretW ddX11_tear_19 rfl h
  replace h := hq
  clear hq
  refine ru_if_eq 11 ddX11_tear_4 (by decide) (fun hc => ?_) (fun hc => ?_)
  · rw [if_pos hc] at h
    refine ru_iconst (0 : Int32) ddX11_tear_11 rfl ?_
    obtain rfl := ruS1 h
    exact J
  · rw [if_neg hc] at h
    refine ru_iconst (1 : Int32) ddX11_tear_7 rfl ?_
    refine ru_goto 12 ddX11_tear_8 (by decide) ?_
    obtain rfl := ruS1 h
    exact J
theorem wX11_allOf_l29 {E : ruE} {d : Nat} (hd : 4 ≤ d) {β : Type} {Q : Option Value → ruA → Prop} {res : β} (x1 : Int32) (x2 : Int32) (x3 : Int32) (x5 : Int32) (x6 : Int32) (A : ruA) {k120 : Int32 → Option (β)} (hk120 : ∀ (x4 : Int32), k120 x4 = some res → ruW E mmX11_allOf d Q 120 [some (rurf E 83), some (.int x1), some (.int x2), some (.int x3), some (.int x4), some (.int x5), some (.int x6), none] [] A) : ∀ (n : Nat) (x4 : Int32) (x7 : Int32), fX11_allOf_l29 x1 x2 x3 x5 x6 A k120 n x4 x7 = some res → ruW E mmX11_allOf d Q 29 [some (rurf E 83), some (.int x1), some (.int x2), some (.int x3), some (.int x4), some (.int x5), some (.int x6), some (.int x7)] [] A := by
  intro n
  induction n with
  | zero =>
    intro x4 x7 h
    exact absurd h (by rw [fX11_allOf_l29]; exact fun h => nomatch h)
  | succ n ih =>
    intro x4 x7 h
    rw [fX11_allOf_l29] at h
    refine ru_iload ddX11_allOf_29 rfl ?_
    refine ru_bipush (12 : Int32) ddX11_allOf_31 rfl ?_
    refine ru_icmp_ge 120 ddX11_allOf_33 (by decide) (fun hc => ?_) (fun hc => ?_)
    · rw [if_pos hc] at h
      refine ru_wk (L2 := [some (rurf E 83), some (.int x1), some (.int x2), some (.int x3), some (.int x4), some (.int x5), some (.int x6), none]) ⟨rfl, rfl, rfl, rfl, rfl, rfl, rfl, trivial⟩ ?_
      exact hk120 x4 h
    · rw [if_neg hc] at h
      refine ru_aload_n ddX11_allOf_36 rfl ?_
      refine ru_iload ddX11_allOf_37 rfl ?_
      refine ru_iload ddX11_allOf_39 rfl ?_
      obtain ⟨v2, hv, h⟩ := ruB_inv h
      refine ru_callVi (as := [.int x5, .int x6]) (st := []) ddX11_allOf_41 cvX11_98 rfl (wX11_hasSheet 2 (Nat.le_refl _) x5 x6 A hv) rfl (Nat.le_trans (m := 4) (by decide) hd) (Nat.le_of_ble_eq_true rfl) ?_
      clear hv
      refine ru_if_eq 120 ddX11_allOf_44 (by decide) (fun hc => ?_) (fun hc => ?_)
      · rw [if_pos hc] at h
        refine ru_wk (L2 := [some (rurf E 83), some (.int x1), some (.int x2), some (.int x3), some (.int x4), some (.int x5), some (.int x6), none]) ⟨rfl, rfl, rfl, rfl, rfl, rfl, rfl, trivial⟩ ?_
        exact hk120 x4 h
      · rw [if_neg hc] at h
        refine ru_iload ddX11_allOf_47 rfl ?_
        refine ru_iload_n ddX11_allOf_49 rfl ?_
        obtain ⟨v3, hq, h⟩ := ruB_inv h
        have J : ruW E mmX11_allOf d Q 111 [some (rurf E 83), some (.int x1), some (.int x2), some (.int x3), none, some (.int x5), some (.int x6), some (.int x7)] [.int v3, .int x4] A := by
            refine ru_iadd ddX11_allOf_111 ?_
            refine ru_istore ddX11_allOf_112 (by decide) rfl rfl ?_
            refine ru_iinc (x7 + (1 : Int32)) ddX11_allOf_114 (by decide) rfl rfl rfl rfl ?_
            refine ru_goto 29 ddX11_allOf_117 (by decide) ?_
            exact ih (x4 + v3) (x7 + (1 : Int32)) h
        replace h := hq
        clear hq
        refine ru_if_ne 66 ddX11_allOf_50 (by decide) (fun hc => ?_) (fun hc => ?_)
        · rw [if_neg hc] at h
          refine ru_iload_n ddX11_allOf_66 rfl ?_
          refine ru_iconst (1 : Int32) ddX11_allOf_67 rfl ?_
          refine ru_icmp_ne 93 ddX11_allOf_68 (by decide) (fun hc => ?_) (fun hc => ?_)
          · rw [if_neg hc] at h
            refine ru_aload_n ddX11_allOf_93 rfl ?_
            refine ru_iload ddX11_allOf_94 rfl ?_
            refine ru_iload ddX11_allOf_96 rfl ?_
            refine ru_iload ddX11_allOf_98 rfl ?_
            obtain ⟨v4, hv, h⟩ := ruB_inv h
            refine ru_callVi (as := [.int x5, .int x6, .int x7]) (st := [.int x4]) ddX11_allOf_100 cvX11_101 rfl (wX11_isRight 3 (Nat.le_refl _) x5 x6 x7 A hv) rfl (Nat.le_trans (m := 4) (by decide) hd) (Nat.le_of_ble_eq_true rfl) ?_
            clear hv
            refine ru_if_eq 110 ddX11_allOf_103 (by decide) (fun hc => ?_) (fun hc => ?_)
            · rw [if_pos hc] at h
              refine ru_iconst (0 : Int32) ddX11_allOf_110 rfl ?_
              refine ru_wk (L2 := [some (rurf E 83), some (.int x1), some (.int x2), some (.int x3), none, some (.int x5), some (.int x6), some (.int x7)]) ⟨rfl, rfl, rfl, rfl, rfl, rfl, rfl, trivial⟩ ?_
              obtain rfl := ruS1 h
              exact J
            · rw [if_neg hc] at h
              refine ru_iconst (1 : Int32) ddX11_allOf_106 rfl ?_
              refine ru_goto 111 ddX11_allOf_107 (by decide) ?_
              refine ru_wk (L2 := [some (rurf E 83), some (.int x1), some (.int x2), some (.int x3), none, some (.int x5), some (.int x6), some (.int x7)]) ⟨rfl, rfl, rfl, rfl, rfl, rfl, rfl, trivial⟩ ?_
              obtain rfl := ruS1 h
              exact J
          · rw [if_pos hc] at h
            refine ru_aload_n ddX11_allOf_71 rfl ?_
            refine ru_iload ddX11_allOf_72 rfl ?_
            refine ru_iload ddX11_allOf_74 rfl ?_
            refine ru_iload ddX11_allOf_76 rfl ?_
            obtain ⟨v5, hv, h⟩ := ruB_inv h
            refine ru_callVi (as := [.int x5, .int x6, .int x7]) (st := [.int x4]) ddX11_allOf_78 cvX11_74 rfl (wX11_choice 2 (Nat.le_refl _) x5 x6 x7 A hv) rfl (Nat.le_trans (m := 4) (by decide) hd) (Nat.le_of_ble_eq_true rfl) ?_
            clear hv
            refine ru_iconst (-1 : Int32) ddX11_allOf_81 rfl ?_
            refine ru_icmp_ne 89 ddX11_allOf_82 (by decide) (fun hc => ?_) (fun hc => ?_)
            · rw [if_neg hc] at h
              refine ru_iconst (1 : Int32) ddX11_allOf_89 rfl ?_
              refine ru_goto 111 ddX11_allOf_90 (by decide) ?_
              refine ru_wk (L2 := [some (rurf E 83), some (.int x1), some (.int x2), some (.int x3), none, some (.int x5), some (.int x6), some (.int x7)]) ⟨rfl, rfl, rfl, rfl, rfl, rfl, rfl, trivial⟩ ?_
              obtain rfl := ruS1 h
              exact J
            · rw [if_pos hc] at h
              refine ru_iconst (0 : Int32) ddX11_allOf_85 rfl ?_
              refine ru_goto 111 ddX11_allOf_86 (by decide) ?_
              refine ru_wk (L2 := [some (rurf E 83), some (.int x1), some (.int x2), some (.int x3), none, some (.int x5), some (.int x6), some (.int x7)]) ⟨rfl, rfl, rfl, rfl, rfl, rfl, rfl, trivial⟩ ?_
              obtain rfl := ruS1 h
              exact J
        · rw [if_pos hc] at h
          refine ru_iload ddX11_allOf_53 rfl ?_
          refine ru_if_ne 62 ddX11_allOf_55 (by decide) (fun hc => ?_) (fun hc => ?_)
          · rw [if_neg hc] at h
            refine ru_iconst (0 : Int32) ddX11_allOf_62 rfl ?_
            refine ru_goto 111 ddX11_allOf_63 (by decide) ?_
            refine ru_wk (L2 := [some (rurf E 83), some (.int x1), some (.int x2), some (.int x3), none, some (.int x5), some (.int x6), some (.int x7)]) ⟨rfl, rfl, rfl, rfl, rfl, rfl, rfl, trivial⟩ ?_
            obtain rfl := ruS1 h
            exact J
          · rw [if_pos hc] at h
            refine ru_iconst (1 : Int32) ddX11_allOf_58 rfl ?_
            refine ru_goto 111 ddX11_allOf_59 (by decide) ?_
            refine ru_wk (L2 := [some (rurf E 83), some (.int x1), some (.int x2), some (.int x3), none, some (.int x5), some (.int x6), some (.int x7)]) ⟨rfl, rfl, rfl, rfl, rfl, rfl, rfl, trivial⟩ ?_
            obtain rfl := ruS1 h
            exact J
theorem wX11_allOf_l20 {E : ruE} {d : Nat} (hd : 4 ≤ d) {β : Type} {Q : Option Value → ruA → Prop} {res : β} (x1 : Int32) (x2 : Int32) (x3 : Int32) (x5 : Int32) (A : ruA) {k126 : Int32 → Option (β)} (hk126 : ∀ (x4 : Int32), k126 x4 = some res → ruW E mmX11_allOf d Q 126 [some (rurf E 83), some (.int x1), some (.int x2), some (.int x3), some (.int x4), some (.int x5), none, none] [] A) : ∀ (n : Nat) (x4 : Int32) (x6 : Int32), fX11_allOf_l20 x1 x2 x3 x5 A k126 n x4 x6 = some res → ruW E mmX11_allOf d Q 20 [some (rurf E 83), some (.int x1), some (.int x2), some (.int x3), some (.int x4), some (.int x5), some (.int x6), none] [] A := by
  intro n
  induction n with
  | zero =>
    intro x4 x6 h
    exact absurd h (by rw [fX11_allOf_l20]; exact fun h => nomatch h)
  | succ n ih =>
    intro x4 x6 h
    rw [fX11_allOf_l20] at h
    refine ru_iload ddX11_allOf_20 rfl ?_
    refine ru_iload_n ddX11_allOf_22 rfl ?_
    refine ru_icmp_gt 126 ddX11_allOf_23 (by decide) (fun hc => ?_) (fun hc => ?_)
    · rw [if_pos hc] at h
      refine ru_wk (L2 := [some (rurf E 83), some (.int x1), some (.int x2), some (.int x3), some (.int x4), some (.int x5), none, none]) ⟨rfl, rfl, rfl, rfl, rfl, rfl, trivial⟩ ?_
      exact hk126 x4 h
    · rw [if_neg hc] at h
      refine ru_iconst (0 : Int32) ddX11_allOf_26 rfl ?_
      refine ru_istore ddX11_allOf_27 (by decide) rfl rfl ?_
      exact wX11_allOf_l29 hd x1 x2 x3 x5 x6 A (fun v6 h => by
            refine ru_iinc (x6 + (1 : Int32)) ddX11_allOf_120 (by decide) rfl rfl rfl rfl ?_
            refine ru_goto 20 ddX11_allOf_123 (by decide) ?_
            exact ih v6 (x6 + (1 : Int32)) h) ruF x4 (0 : Int32) h
theorem wX11_allOf_l6 {E : ruE} {d : Nat} (hd : 4 ≤ d) {β : Type} {Q : Option Value → ruA → Prop} {res : β} (x1 : Int32) (x2 : Int32) (x3 : Int32) (A : ruA) {k132 : Int32 → Option (β)} (hk132 : ∀ (x4 : Int32), k132 x4 = some res → ruW E mmX11_allOf d Q 132 [none, none, none, none, some (.int x4), none, none, none] [] A) : ∀ (n : Nat) (x4 : Int32) (x5 : Int32), fX11_allOf_l6 x1 x2 x3 A k132 n x4 x5 = some res → ruW E mmX11_allOf d Q 6 [some (rurf E 83), some (.int x1), some (.int x2), some (.int x3), some (.int x4), some (.int x5), none, none] [] A := by
  intro n
  induction n with
  | zero =>
    intro x4 x5 h
    exact absurd h (by rw [fX11_allOf_l6]; exact fun h => nomatch h)
  | succ n ih =>
    intro x4 x5 h
    rw [fX11_allOf_l6] at h
    refine ru_iload ddX11_allOf_6 rfl ?_
    refine ru_aload_n ddX11_allOf_8 rfl ?_
    refine ru_getR (r := 84) ddX11_allOf_9 flX11_9 rfl rfl ?_
    refine ru_iconst (2 : Int32) ddX11_allOf_12 rfl ?_
    obtain ⟨v1, hv, h⟩ := ruB_inv h
    refine ru_iald ddX11_allOf_13 rfl hv ?_
    clear hv
    refine ru_icmp_ge 132 ddX11_allOf_14 (by decide) (fun hc => ?_) (fun hc => ?_)
    · rw [if_pos hc] at h
      refine ru_wk (L2 := [none, none, none, none, some (.int x4), none, none, none]) ⟨rfl, trivial⟩ ?_
      exact hk132 x4 h
    · rw [if_neg hc] at h
      refine ru_iload_n ddX11_allOf_17 rfl ?_
      refine ru_istore ddX11_allOf_18 (by decide) rfl rfl ?_
      exact wX11_allOf_l20 hd x1 x2 x3 x5 A (fun v7 h => by
            refine ru_iinc (x5 + (1 : Int32)) ddX11_allOf_126 (by decide) rfl rfl rfl rfl ?_
            refine ru_goto 6 ddX11_allOf_129 (by decide) ?_
            exact ih v7 (x5 + (1 : Int32)) h) ruF x4 x1 h
theorem wX11_allOf {E : ruE} (d : Nat) (hd : 4 ≤ d) (x1 : Int32) (x2 : Int32) (x3 : Int32) (A : ruA) {r : Int32} (h : fX11_allOf x1 x2 x3 A = some r) : ruC E mmX11_allOf d [rurf E 83, .int x1, .int x2, .int x3] A (ruPr r A) := by
  refine ruC.of (L := [some (rurf E 83), some (.int x1), some (.int x2), some (.int x3), none, none, none, none]) (by decide) rfl (Nat.le_of_ble_eq_true rfl) rfl ?_
  unfold fX11_allOf at h
  refine ru_iconst (0 : Int32) ddX11_allOf_0 rfl ?_
  refine ru_istore ddX11_allOf_1 (by decide) rfl rfl ?_
  refine ru_iconst (0 : Int32) ddX11_allOf_3 rfl ?_
  refine ru_istore ddX11_allOf_4 (by decide) rfl rfl ?_
  exact wX11_allOf_l6 hd x1 x2 x3 A (fun v8 h => by
        refine ru_iload ddX11_allOf_132 rfl ?_
        exact ru_iretP ddX11_allOf_134 rfl h) ruF (0 : Int32) (0 : Int32) h
theorem wX11_count {E : ruE} (d : Nat) (hd : 5 ≤ d) (x1 : Int32) (A : ruA) {r : Int32} {B : ruA} (h : fX11_count x1 A = some (r, B)) : ruC E mmX11_count d [rurf E 83, .int x1] A (ruPr r B) := by
  refine ruC.of (L := [some (rurf E 83), some (.int x1)]) (by decide) rfl (Nat.le_of_ble_eq_true rfl) rfl ?_
  unfold fX11_count at h
  refine ru_iload_n ddX11_count_0 rfl ?_
  by_cases hc0 : x1 = (0 : Int32)
  · rw [if_pos hc0] at h
    refine ru_tabC 60 ddX11_count_1 hc0 ⟨by decide, by decide, _, rfl, by decide⟩ ?_
    refine ru_aload_n ddX11_count_60 rfl ?_
    refine ru_getR (r := 84) ddX11_count_61 flX11_9 rfl rfl ?_
    refine ru_iconst (1 : Int32) ddX11_count_64 rfl ?_
    obtain ⟨v1, hv, h⟩ := ruB_inv h
    refine ru_iald ddX11_count_65 rfl hv ?_
    clear hv
    exact ru_iretW ddX11_count_66 rfl h
  · rw [if_neg hc0] at h
    by_cases hc1 : x1 = (1 : Int32)
    · rw [if_pos hc1] at h
      refine ru_tabC 67 ddX11_count_1 hc1 ⟨by decide, by decide, _, rfl, by decide⟩ ?_
      refine ru_aload_n ddX11_count_67 rfl ?_
      refine ru_getR (r := 84) ddX11_count_68 flX11_9 rfl rfl ?_
      refine ru_iconst (2 : Int32) ddX11_count_71 rfl ?_
      obtain ⟨v2, hv, h⟩ := ruB_inv h
      refine ru_iald ddX11_count_72 rfl hv ?_
      clear hv
      exact ru_iretW ddX11_count_73 rfl h
    · rw [if_neg hc1] at h
      by_cases hc2 : x1 = (2 : Int32)
      · rw [if_pos hc2] at h
        refine ru_tabC 74 ddX11_count_1 hc2 ⟨by decide, by decide, _, rfl, by decide⟩ ?_
        refine ru_aload_n ddX11_count_74 rfl ?_
        refine ru_aload_n ddX11_count_75 rfl ?_
        refine ru_getR (r := 84) ddX11_count_76 flX11_9 rfl rfl ?_
        refine ru_iconst (0 : Int32) ddX11_count_79 rfl ?_
        obtain ⟨v3, hv, h⟩ := ruB_inv h
        refine ru_iald ddX11_count_80 rfl hv ?_
        clear hv
        refine ru_aload_n ddX11_count_81 rfl ?_
        refine ru_getR (r := 84) ddX11_count_82 flX11_9 rfl rfl ?_
        refine ru_iconst (0 : Int32) ddX11_count_85 rfl ?_
        obtain ⟨v4, hv, h⟩ := ruB_inv h
        refine ru_iald ddX11_count_86 rfl hv ?_
        clear hv
        refine ru_iconst (0 : Int32) ddX11_count_87 rfl ?_
        obtain ⟨v5, hv, h⟩ := ruB_inv h
        refine ru_callVi (as := [.int v3, .int v4, .int (0 : Int32)]) (st := []) ddX11_count_88 cvX11_270 rfl (wX11_allOf 4 (Nat.le_refl _) v3 v4 (0 : Int32) A hv) rfl (Nat.le_trans (m := 5) (by decide) hd) (Nat.le_of_ble_eq_true rfl) ?_
        clear hv
        exact ru_iretW ddX11_count_91 rfl h
      · rw [if_neg hc2] at h
        by_cases hc3 : x1 = (3 : Int32)
        · rw [if_pos hc3] at h
          refine ru_tabC 92 ddX11_count_1 hc3 ⟨by decide, by decide, _, rfl, by decide⟩ ?_
          refine ru_aload_n ddX11_count_92 rfl ?_
          refine ru_iconst (0 : Int32) ddX11_count_93 rfl ?_
          refine ru_iconst (5 : Int32) ddX11_count_94 rfl ?_
          refine ru_iconst (0 : Int32) ddX11_count_95 rfl ?_
          obtain ⟨v6, hv, h⟩ := ruB_inv h
          refine ru_callVi (as := [.int (0 : Int32), .int (5 : Int32), .int (0 : Int32)]) (st := []) ddX11_count_96 cvX11_270 rfl (wX11_allOf 4 (Nat.le_refl _) (0 : Int32) (5 : Int32) (0 : Int32) A hv) rfl (Nat.le_trans (m := 5) (by decide) hd) (Nat.le_of_ble_eq_true rfl) ?_
          clear hv
          exact ru_iretW ddX11_count_99 rfl h
        · rw [if_neg hc3] at h
          by_cases hc4 : x1 = (4 : Int32)
          · rw [if_pos hc4] at h
            refine ru_tabC 100 ddX11_count_1 hc4 ⟨by decide, by decide, _, rfl, by decide⟩ ?_
            refine ru_aload_n ddX11_count_100 rfl ?_
            refine ru_getR (r := 84) ddX11_count_101 flX11_9 rfl rfl ?_
            refine ru_iconst (3 : Int32) ddX11_count_104 rfl ?_
            obtain ⟨v7, hv, h⟩ := ruB_inv h
            refine ru_iald ddX11_count_105 rfl hv ?_
            clear hv
            exact ru_iretW ddX11_count_106 rfl h
          · rw [if_neg hc4] at h
            by_cases hc5 : x1 = (5 : Int32)
            · rw [if_pos hc5] at h
              refine ru_tabC 107 ddX11_count_1 hc5 ⟨by decide, by decide, _, rfl, by decide⟩ ?_
              refine ru_aload_n ddX11_count_107 rfl ?_
              refine ru_getR (r := 84) ddX11_count_108 flX11_9 rfl rfl ?_
              refine ru_iconst (5 : Int32) ddX11_count_111 rfl ?_
              obtain ⟨v8, hv, h⟩ := ruB_inv h
              refine ru_iald ddX11_count_112 rfl hv ?_
              clear hv
              exact ru_iretW ddX11_count_113 rfl h
            · rw [if_neg hc5] at h
              by_cases hc6 : x1 = (6 : Int32)
              · rw [if_pos hc6] at h
                refine ru_tabC 114 ddX11_count_1 hc6 ⟨by decide, by decide, _, rfl, by decide⟩ ?_
                refine ru_aload_n ddX11_count_114 rfl ?_
                refine ru_getR (r := 84) ddX11_count_115 flX11_9 rfl rfl ?_
                refine ru_iconst (4 : Int32) ddX11_count_118 rfl ?_
                obtain ⟨v9, hv, h⟩ := ruB_inv h
                refine ru_iald ddX11_count_119 rfl hv ?_
                clear hv
                exact ru_iretW ddX11_count_120 rfl h
              · rw [if_neg hc6] at h
                by_cases hc7 : x1 = (7 : Int32)
                · rw [if_pos hc7] at h
                  refine ru_tabC 121 ddX11_count_1 hc7 ⟨by decide, by decide, _, rfl, by decide⟩ ?_
                  refine ru_aload_n ddX11_count_121 rfl ?_
                  refine ru_getI ddX11_count_122 flX11_183 rfl ?_
                  exact ru_iretW ddX11_count_125 rfl h
                · rw [if_neg hc7] at h
                  by_cases hc8 : x1 = (8 : Int32)
                  · rw [if_pos hc8] at h
                    refine ru_tabC 126 ddX11_count_1 hc8 ⟨by decide, by decide, _, rfl, by decide⟩ ?_
                    refine ru_aload_n ddX11_count_126 rfl ?_
                    refine ru_getR (r := 84) ddX11_count_127 flX11_9 rfl rfl ?_
                    refine ru_iconst (0 : Int32) ddX11_count_130 rfl ?_
                    obtain ⟨v10, hv, h⟩ := ruB_inv h
                    refine ru_iald ddX11_count_131 rfl hv ?_
                    clear hv
                    exact ru_iretW ddX11_count_132 rfl h
                  · rw [if_neg hc8] at h
                    by_cases hc9 : x1 = (9 : Int32)
                    · rw [if_pos hc9] at h
                      refine ru_tabC 133 ddX11_count_1 hc9 ⟨by decide, by decide, _, rfl, by decide⟩ ?_
                      refine ru_aload_n ddX11_count_133 rfl ?_
                      refine ru_iconst (0 : Int32) ddX11_count_134 rfl ?_
                      refine ru_iconst (5 : Int32) ddX11_count_135 rfl ?_
                      refine ru_iconst (1 : Int32) ddX11_count_136 rfl ?_
                      obtain ⟨v11, hv, h⟩ := ruB_inv h
                      refine ru_callVi (as := [.int (0 : Int32), .int (5 : Int32), .int (1 : Int32)]) (st := []) ddX11_count_137 cvX11_270 rfl (wX11_allOf 4 (Nat.le_refl _) (0 : Int32) (5 : Int32) (1 : Int32) A hv) rfl (Nat.le_trans (m := 5) (by decide) hd) (Nat.le_of_ble_eq_true rfl) ?_
                      clear hv
                      exact ru_iretW ddX11_count_140 rfl h
                    · rw [if_neg hc9] at h
                      by_cases hc10 : x1 = (10 : Int32)
                      · rw [if_pos hc10] at h
                        refine ru_tabC 141 ddX11_count_1 hc10 ⟨by decide, by decide, _, rfl, by decide⟩ ?_
                        refine ru_aload_n ddX11_count_141 rfl ?_
                        refine ru_iconst (0 : Int32) ddX11_count_142 rfl ?_
                        refine ru_iconst (5 : Int32) ddX11_count_143 rfl ?_
                        refine ru_iconst (2 : Int32) ddX11_count_144 rfl ?_
                        obtain ⟨v12, hv, h⟩ := ruB_inv h
                        refine ru_callVi (as := [.int (0 : Int32), .int (5 : Int32), .int (2 : Int32)]) (st := []) ddX11_count_145 cvX11_270 rfl (wX11_allOf 4 (Nat.le_refl _) (0 : Int32) (5 : Int32) (2 : Int32) A hv) rfl (Nat.le_trans (m := 5) (by decide) hd) (Nat.le_of_ble_eq_true rfl) ?_
                        clear hv
                        exact ru_iretW ddX11_count_148 rfl h
                      · rw [if_neg hc10] at h
                        refine ru_tabD 149 ddX11_count_1 (fun j h9 => ?_) (by decide) ?_
                        · have h8 : j = 0 ∨ j = 1 ∨ j = 2 ∨ j = 3 ∨ j = 4 ∨ j = 5 ∨ j = 6 ∨ j = 7 ∨ j = 8 ∨ j = 9 ∨ j = 10 := by omega
                          rcases h8 with rfl | rfl | rfl | rfl | rfl | rfl | rfl | rfl | rfl | rfl | rfl
                          · exact fun e => hc0 (e.trans (by decide))
                          · exact fun e => hc1 (e.trans (by decide))
                          · exact fun e => hc2 (e.trans (by decide))
                          · exact fun e => hc3 (e.trans (by decide))
                          · exact fun e => hc4 (e.trans (by decide))
                          · exact fun e => hc5 (e.trans (by decide))
                          · exact fun e => hc6 (e.trans (by decide))
                          · exact fun e => hc7 (e.trans (by decide))
                          · exact fun e => hc8 (e.trans (by decide))
                          · exact fun e => hc9 (e.trans (by decide))
                          · exact fun e => hc10 (e.trans (by decide))
                        refine ru_aload_n ddX11_count_149 rfl ?_
                        refine ru_ldc (v := (-1000001 : Int32)) ddX11_count_150 ckX11_65 ?_
                        obtain ⟨v13, A14, hv, h⟩ := ruB2_inv h
                        refine ru_callVi (as := [.int (-1000001 : Int32)]) (st := []) ddX11_count_152 cvX11_82 rfl (wX11_finding 1 (Nat.le_refl _) (-1000001 : Int32) A hv) rfl (Nat.le_trans (m := 5) (by decide) hd) (Nat.le_of_ble_eq_true rfl) ?_
                        clear hv
                        exact ru_iretW ddX11_count_155 rfl h
theorem wX11_status_l21 {E : ruE} {d : Nat} (hd : 2 ≤ d) {β : Type} {Q : Option Value → ruA → Prop} {res : β} (x1 : Int32) (A : ruA) {k55 : Int32 → Option (β)} (hk55 : ∀ (x2 : Int32), k55 x2 = some res → ruW E mmX11_status d Q 55 [none, none, some (.int x2), none] [] A) : ∀ (n : Nat) (x2 : Int32) (x3 : Int32), fX11_status_l21 x1 A k55 n x2 x3 = some res → ruW E mmX11_status d Q 21 [some (rurf E 83), some (.int x1), some (.int x2), some (.int x3)] [] A := by
  intro n
  induction n with
  | zero =>
    intro x2 x3 h
    exact absurd h (by rw [fX11_status_l21]; exact fun h => nomatch h)
  | succ n ih =>
    intro x2 x3 h
    rw [fX11_status_l21] at h
    refine ru_iload_n ddX11_status_21 rfl ?_
    refine ru_bipush (7 : Int32) ddX11_status_22 rfl ?_
    refine ru_icmp_ge 55 ddX11_status_24 (by decide) (fun hc => ?_) (fun hc => ?_)
    · rw [if_pos hc] at h
      refine ru_wk (L2 := [none, none, some (.int x2), none]) ⟨rfl, trivial⟩ ?_
      exact hk55 x2 h
    · rw [if_neg hc] at h
      refine ru_iload_n ddX11_status_27 rfl ?_
      refine ru_iload_n ddX11_status_28 rfl ?_
      obtain ⟨v2, hq, h⟩ := ruB_inv h
      have J : ruW E mmX11_status d Q 47 [some (rurf E 83), some (.int x1), none, some (.int x3)] [.int v2, .int x2] A := by
          refine ru_iadd ddX11_status_47 ?_
          refine ru_istore_n ddX11_status_48 (by decide) rfl rfl ?_
          refine ru_iinc (x3 + (1 : Int32)) ddX11_status_49 (by decide) rfl rfl rfl rfl ?_
          refine ru_goto 21 ddX11_status_52 (by decide) ?_
          exact ih (x2 + v2) (x3 + (1 : Int32)) h
      replace h := hq
      clear hq
      refine ru_if_lt 37 ddX11_status_29 (by decide) (fun hc => ?_) (fun hc => ?_)
      · rw [if_pos hc] at h
        refine ru_aload_n ddX11_status_37 rfl ?_
        refine ru_getR (r := 86) ddX11_status_38 flX11_16 rfl rfl ?_
        refine ru_iload_n ddX11_status_41 rfl ?_
        obtain ⟨v3, hv, h⟩ := ruB_inv h
        refine ru_iald ddX11_status_42 rfl hv ?_
        clear hv
        refine ru_goto 47 ddX11_status_43 (by decide) ?_
        refine ru_wk (L2 := [some (rurf E 83), some (.int x1), none, some (.int x3)]) ⟨rfl, rfl, rfl, trivial⟩ ?_
        obtain rfl := ruS1 h
        exact J
      · rw [if_neg hc] at h
        refine ru_iload_n ddX11_status_32 rfl ?_
        refine ru_iload_n ddX11_status_33 rfl ?_
        refine ru_icmp_ne 46 ddX11_status_34 (by decide) (fun hc => ?_) (fun hc => ?_)
        · rw [if_neg hc] at h
          refine ru_iconst (0 : Int32) ddX11_status_46 rfl ?_
          refine ru_wk (L2 := [some (rurf E 83), some (.int x1), none, some (.int x3)]) ⟨rfl, rfl, rfl, trivial⟩ ?_
          obtain rfl := ruS1 h
          exact J
        · rw [if_pos hc] at h
          refine ru_aload_n ddX11_status_37 rfl ?_
          refine ru_getR (r := 86) ddX11_status_38 flX11_16 rfl rfl ?_
          refine ru_iload_n ddX11_status_41 rfl ?_
          obtain ⟨v4, hv, h⟩ := ruB_inv h
          refine ru_iald ddX11_status_42 rfl hv ?_
          clear hv
          refine ru_goto 47 ddX11_status_43 (by decide) ?_
          refine ru_wk (L2 := [some (rurf E 83), some (.int x1), none, some (.int x3)]) ⟨rfl, rfl, rfl, trivial⟩ ?_
          obtain rfl := ruS1 h
          exact J
theorem wX11_status {E : ruE} (d : Nat) (hd : 2 ≤ d) (x1 : Int32) (A : ruA) {r : Int32} {B : ruA} (h : fX11_status x1 A = some (r, B)) : ruC E mmX11_status d [rurf E 83, .int x1] A (ruPr r B) := by
  refine ruC.of (L := [some (rurf E 83), some (.int x1), none, none]) (by decide) rfl (Nat.le_of_ble_eq_true rfl) rfl ?_
  unfold fX11_status at h
  refine ru_iload_n ddX11_status_0 rfl ?_
  refine ru_iconst (-1 : Int32) ddX11_status_1 rfl ?_
  refine ru_bipush (6 : Int32) ddX11_status_2 rfl ?_
  obtain ⟨v1, hv, h⟩ := ruB_inv h
  refine ru_callSi (as := [.int x1, .int (-1 : Int32), .int (6 : Int32)]) (st := []) ddX11_status_4 csX11_66 (wX11_within 1 (Nat.le_refl _) x1 (-1 : Int32) (6 : Int32) A hv) rfl (Nat.le_trans (m := 2) (by decide) hd) (Nat.le_of_ble_eq_true rfl) ?_
  clear hv
  refine ru_if_ne 17 ddX11_status_7 (by decide) (fun hc => ?_) (fun hc => ?_)
  · rw [if_neg hc] at h
    refine ru_iconst (0 : Int32) ddX11_status_17 rfl ?_
    refine ru_istore_n ddX11_status_18 (by decide) rfl rfl ?_
    refine ru_iconst (0 : Int32) ddX11_status_19 rfl ?_
    refine ru_istore_n ddX11_status_20 (by decide) rfl rfl ?_
    exact wX11_status_l21 hd x1 A (fun v5 h => by
          refine ru_iload_n ddX11_status_55 rfl ?_
          exact ru_iretW ddX11_status_56 rfl h) ruF (0 : Int32) (0 : Int32) h
  · rw [if_pos hc] at h
    refine ru_aload_n ddX11_status_10 rfl ?_
    refine ru_ldc (v := (-1000001 : Int32)) ddX11_status_11 ckX11_65 ?_
    obtain ⟨v6, A7, hv, h⟩ := ruB2_inv h
    refine ru_callVi (as := [.int (-1000001 : Int32)]) (st := []) ddX11_status_13 cvX11_82 rfl (wX11_finding 1 (Nat.le_refl _) (-1000001 : Int32) A hv) rfl (Nat.le_trans (m := 2) (by decide) hd) (Nat.le_of_ble_eq_true rfl) ?_
    clear hv
    exact ru_iretW ddX11_status_16 rfl h
