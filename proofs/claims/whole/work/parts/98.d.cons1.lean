/-! LEVEL 3: constructors -/
theorem zf0 : ∀ j, j < 5 → defaultValue (ruty0 j) = vp_V [.null, .null, .null, .null, .null] j := by
  intro j hj
  rcases (show j = 0 ∨ j = 1 ∨ j = 2 ∨ j = 3 ∨ j = 4 by omega) with rfl | rfl | rfl | rfl | rfl <;> rfl
theorem mkiX0 : ruMk mmX0_init 0 := ⟨ru_mt 2 (by decide +kernel), ru_mt 33 (by decide +kernel), by decide +kernel, by decide⟩
theorem zf1 : ∀ j, j < 3 → defaultValue (ruty1 j) = vp_V [.int 0, .null, .null] j := by
  intro j hj
  rcases (show j = 0 ∨ j = 1 ∨ j = 2 by omega) with rfl | rfl | rfl <;> rfl
theorem mkiX1 : ruMk mmX1_init 0 := ⟨ru_mt 7 (by decide +kernel), ru_mt 160 (by decide +kernel), by decide +kernel, by decide⟩
theorem zf2 : ∀ j, j < 6 → defaultValue (ruty2 j) = vp_V [.int 0, .null, .null, .null, .null, .null] j := by
  intro j hj
  rcases (show j = 0 ∨ j = 1 ∨ j = 2 ∨ j = 3 ∨ j = 4 ∨ j = 5 by omega) with rfl | rfl | rfl | rfl | rfl | rfl <;> rfl
theorem mkiX2 : ruMk mmX2_init 0 := ⟨ru_mt 6 (by decide +kernel), ru_mt 134 (by decide +kernel), by decide +kernel, by decide⟩
theorem zf3 : ∀ j, j < 4 → defaultValue (ruty3 j) = vp_V [.null, .null, .null, .null] j := by
  intro j hj
  rcases (show j = 0 ∨ j = 1 ∨ j = 2 ∨ j = 3 by omega) with rfl | rfl | rfl | rfl <;> rfl
theorem mkiX3 : ruMk mmX3_init 2 := ⟨ru_mt 8 (by decide +kernel), ru_mt 198 (by decide +kernel), by decide +kernel, by decide⟩
theorem zf4 : ∀ j, j < 9 → defaultValue (ruty4 j) = vp_V [.null, .int 0, .int 0, .int 0, .int 0, .int 0, .int 0, .null, .null] j := by
  intro j hj
  rcases (show j = 0 ∨ j = 1 ∨ j = 2 ∨ j = 3 ∨ j = 4 ∨ j = 5 ∨ j = 6 ∨ j = 7 ∨ j = 8 by omega) with rfl | rfl | rfl | rfl | rfl | rfl | rfl | rfl | rfl <;> rfl
theorem mkiX4 : ruMk mmX4_init 0 := ⟨ru_mt 10 (by decide +kernel), ru_mt 261 (by decide +kernel), by decide +kernel, by decide⟩
theorem zf5 : ∀ j, j < 9 → defaultValue (ruty5 j) = vp_V [.int 0, .int 0, .int 0, .null, .null, .null, .null, .null, .null] j := by
  intro j hj
  rcases (show j = 0 ∨ j = 1 ∨ j = 2 ∨ j = 3 ∨ j = 4 ∨ j = 5 ∨ j = 6 ∨ j = 7 ∨ j = 8 by omega) with rfl | rfl | rfl | rfl | rfl | rfl | rfl | rfl | rfl <;> rfl
theorem mkiX5 : ruMk mmX5_init 0 := ⟨ru_mt 3 (by decide +kernel), ru_mt 39 (by decide +kernel), by decide +kernel, by decide⟩
theorem zf6 : ∀ j, j < 4 → defaultValue (ruty6 j) = vp_V [.null, .null, .null, .null] j := by
  intro j hj
  rcases (show j = 0 ∨ j = 1 ∨ j = 2 ∨ j = 3 by omega) with rfl | rfl | rfl | rfl <;> rfl
theorem mkiX6 : ruMk mmX6_init 0 := ⟨ru_mt 4 (by decide +kernel), ru_mt 90 (by decide +kernel), by decide +kernel, by decide⟩
theorem zf7 : ∀ j, j < 3 → defaultValue (ruty7 j) = vp_V [.int 0, .int 0, .null] j := by
  intro j hj
  rcases (show j = 0 ∨ j = 1 ∨ j = 2 by omega) with rfl | rfl | rfl <;> rfl
theorem mkiX7 : ruMk mmX7_init 0 := ⟨ru_mt 11 (by decide +kernel), ru_mt 296 (by decide +kernel), by decide +kernel, by decide⟩
theorem zf8 : ∀ j, j < 10 → defaultValue (ruty8 j) = vp_V [.int 0, .int 0, .int 0, .int 0, .int 0, .null, .null, .null, .null, .null] j := by
  intro j hj
  rcases (show j = 0 ∨ j = 1 ∨ j = 2 ∨ j = 3 ∨ j = 4 ∨ j = 5 ∨ j = 6 ∨ j = 7 ∨ j = 8 ∨ j = 9 by omega) with rfl | rfl | rfl | rfl | rfl | rfl | rfl | rfl | rfl | rfl <;> rfl
theorem mkiX8 : ruMk mmX8_init 2 := ⟨ru_mt 9 (by decide +kernel), ru_mt 204 (by decide +kernel), by decide +kernel, by decide⟩
theorem zf9 : ∀ j, j < 3 → defaultValue (ruty9 j) = vp_V [.int 0, .null, .null] j := by
  intro j hj
  rcases (show j = 0 ∨ j = 1 ∨ j = 2 by omega) with rfl | rfl | rfl <;> rfl
theorem mkiX9 : ruMk mmX9_init 0 := ⟨ru_mt 5 (by decide +kernel), ru_mt 113 (by decide +kernel), by decide +kernel, by decide⟩
theorem zf10 : ∀ j, j < 13 → defaultValue (ruty10 j) = vp_V [.null, .null, .int 0, .null, .null, .null, .null, .null, .null, .int 0, .null, .null, .int 0] j := by
  intro j hj
  rcases (show j = 0 ∨ j = 1 ∨ j = 2 ∨ j = 3 ∨ j = 4 ∨ j = 5 ∨ j = 6 ∨ j = 7 ∨ j = 8 ∨ j = 9 ∨ j = 10 ∨ j = 11 ∨ j = 12 by omega) with rfl | rfl | rfl | rfl | rfl | rfl | rfl | rfl | rfl | rfl | rfl | rfl | rfl <;> rfl
theorem mkiX10 : ruMk mmX10_init 0 := ⟨ru_mt 1 (by decide +kernel), ru_mt 25 (by decide +kernel), by decide +kernel, by decide⟩
theorem zf11 : ∀ j, j < 25 → defaultValue (ruty11 j) = vp_V [.null, .null, .int 0, .int 0, .null, .null, .int 0, .null, .null, .null, .int 0, .int 0, .int 0, .null, .int 0, .int 0, .int 0, .int 0, .int 0, .null, .int 0, .null, .null, .null, .null] j := by
  intro j hj
  rcases (show j = 0 ∨ j = 1 ∨ j = 2 ∨ j = 3 ∨ j = 4 ∨ j = 5 ∨ j = 6 ∨ j = 7 ∨ j = 8 ∨ j = 9 ∨ j = 10 ∨ j = 11 ∨ j = 12 ∨ j = 13 ∨ j = 14 ∨ j = 15 ∨ j = 16 ∨ j = 17 ∨ j = 18 ∨ j = 19 ∨ j = 20 ∨ j = 21 ∨ j = 22 ∨ j = 23 ∨ j = 24 by omega) with rfl | rfl | rfl | rfl | rfl | rfl | rfl | rfl | rfl | rfl | rfl | rfl | rfl | rfl | rfl | rfl | rfl | rfl | rfl | rfl | rfl | rfl | rfl | rfl | rfl <;> rfl
theorem mkiX11 : ruMk mmX11_init 0 := ⟨ru_mt 12 (by decide +kernel), ru_mt 967 (by decide +kernel), by decide +kernel, by decide⟩
set_option maxRecDepth 20000 in
set_option maxHeartbeats 4000000 in
theorem kX5_init (F : cnF) (h : Nat) (sz : Nat) : cnC F mmX5_init 1 6 120 [.ref h] (h, .inr (5, [.int 0, .int 0, .int 0, .null, .null, .null, .null, .null, .null])) sz cnV (fun ws => ∃ q1 q2 q3 q4 q5 q6 : Nat, ws = [(h, .inr (5, [.int 0, .int 0, .int 0, .ref q1, .ref q2, .ref q3, .ref q4, .ref q5, .ref q6])), (q1, .inl (F.2.2.1 0, 12, .inl fun _ => 0)), (q2, .inl (F.2.2.1 0, 12, .inl fun _ => 0)), (q3, .inl (F.2.2.1 0, 24, .inl fun _ => 0)), (q4, .inl (F.2.2.1 0, 24, .inl fun _ => 0)), (q5, .inl (F.2.2.1 0, 24, .inl fun _ => 0)), (q6, .inl (F.2.2.1 0, 24, .inl fun _ => 0))]) := by
  refine cnC.of (L := [some (.ref h)]) (by decide) rfl rfl (Nat.le_of_ble_eq_true rfl) rfl ?_
  refine cn_aload_n ddX5_init_0 rfl ?_
  refine cn_obj ddX5_init_1 (ru_mt 40 (by decide +kernel)) (by decide) (Nat.le_of_ble_eq_true rfl) ?_
  refine cn_aload_n ddX5_init_4 rfl ?_
  refine cn_bipush 12 ddX5_init_5 (by decide) ?_
  refine cn_newa (atype := .int) (kd := 0) (a0 := (12, .inl fun _ => 0)) ddX5_init_7 rfl (by decide) rfl (ru_mt 85 (by decide +kernel)) (fun _ => rfl) (by decide) (by decide) (Nat.le_of_ble_eq_true rfl) (Nat.le_of_ble_eq_true rfl) (Nat.le_of_ble_eq_true rfl) (fun q1 => ?_)
  show cnW F _ _ _ _ _ _ _ _ _ _ _ [(h, .inr (5, [.int 0, .int 0, .int 0, .null, .null, .null, .null, .null, .null])), (q1, .inl (F.2.2.1 0, 12, .inl fun _ => 0))] _ _
  refine cn_putF (ci := 5) (j := 3) (k := 0) (ty := (.array .int)) (ws2 := [(h, .inr (5, [.int 0, .int 0, .int 0, .ref q1, .null, .null, .null, .null, .null])), (q1, .inl (F.2.2.1 0, 12, .inl fun _ => 0))]) ddX5_init_9 rfl ruin5 rutyok5 runm5 (by decide) (ru_mt 50 (by decide +kernel)) rfl rfl (by decide +kernel) rfl rfl rfl (Nat.le_of_ble_eq_true rfl) rfl ?_
  refine cn_aload_n ddX5_init_12 rfl ?_
  refine cn_bipush 12 ddX5_init_13 (by decide) ?_
  refine cn_newa (atype := .int) (kd := 0) (a0 := (12, .inl fun _ => 0)) ddX5_init_15 rfl (by decide) rfl (ru_mt 85 (by decide +kernel)) (fun _ => rfl) (by decide) (by decide) (Nat.le_of_ble_eq_true rfl) (Nat.le_of_ble_eq_true rfl) (Nat.le_of_ble_eq_true rfl) (fun q2 => ?_)
  show cnW F _ _ _ _ _ _ _ _ _ _ _ [(h, .inr (5, [.int 0, .int 0, .int 0, .ref q1, .null, .null, .null, .null, .null])), (q1, .inl (F.2.2.1 0, 12, .inl fun _ => 0)), (q2, .inl (F.2.2.1 0, 12, .inl fun _ => 0))] _ _
  refine cn_putF (ci := 5) (j := 4) (k := 0) (ty := (.array .int)) (ws2 := [(h, .inr (5, [.int 0, .int 0, .int 0, .ref q1, .ref q2, .null, .null, .null, .null])), (q1, .inl (F.2.2.1 0, 12, .inl fun _ => 0)), (q2, .inl (F.2.2.1 0, 12, .inl fun _ => 0))]) ddX5_init_17 rfl ruin5 rutyok5 runm5 (by decide) (ru_mt 53 (by decide +kernel)) rfl rfl (by decide +kernel) rfl rfl rfl (Nat.le_of_ble_eq_true rfl) rfl ?_
  refine cn_aload_n ddX5_init_20 rfl ?_
  refine cn_bipush 24 ddX5_init_21 (by decide) ?_
  refine cn_newa (atype := .int) (kd := 0) (a0 := (24, .inl fun _ => 0)) ddX5_init_23 rfl (by decide) rfl (ru_mt 85 (by decide +kernel)) (fun _ => rfl) (by decide) (by decide) (Nat.le_of_ble_eq_true rfl) (Nat.le_of_ble_eq_true rfl) (Nat.le_of_ble_eq_true rfl) (fun q3 => ?_)
  show cnW F _ _ _ _ _ _ _ _ _ _ _ [(h, .inr (5, [.int 0, .int 0, .int 0, .ref q1, .ref q2, .null, .null, .null, .null])), (q1, .inl (F.2.2.1 0, 12, .inl fun _ => 0)), (q2, .inl (F.2.2.1 0, 12, .inl fun _ => 0)), (q3, .inl (F.2.2.1 0, 24, .inl fun _ => 0))] _ _
  refine cn_putF (ci := 5) (j := 5) (k := 0) (ty := (.array .int)) (ws2 := [(h, .inr (5, [.int 0, .int 0, .int 0, .ref q1, .ref q2, .ref q3, .null, .null, .null])), (q1, .inl (F.2.2.1 0, 12, .inl fun _ => 0)), (q2, .inl (F.2.2.1 0, 12, .inl fun _ => 0)), (q3, .inl (F.2.2.1 0, 24, .inl fun _ => 0))]) ddX5_init_25 rfl ruin5 rutyok5 runm5 (by decide) (ru_mt 56 (by decide +kernel)) rfl rfl (by decide +kernel) rfl rfl rfl (Nat.le_of_ble_eq_true rfl) rfl ?_
  refine cn_aload_n ddX5_init_28 rfl ?_
  refine cn_bipush 24 ddX5_init_29 (by decide) ?_
  refine cn_newa (atype := .int) (kd := 0) (a0 := (24, .inl fun _ => 0)) ddX5_init_31 rfl (by decide) rfl (ru_mt 85 (by decide +kernel)) (fun _ => rfl) (by decide) (by decide) (Nat.le_of_ble_eq_true rfl) (Nat.le_of_ble_eq_true rfl) (Nat.le_of_ble_eq_true rfl) (fun q4 => ?_)
  show cnW F _ _ _ _ _ _ _ _ _ _ _ [(h, .inr (5, [.int 0, .int 0, .int 0, .ref q1, .ref q2, .ref q3, .null, .null, .null])), (q1, .inl (F.2.2.1 0, 12, .inl fun _ => 0)), (q2, .inl (F.2.2.1 0, 12, .inl fun _ => 0)), (q3, .inl (F.2.2.1 0, 24, .inl fun _ => 0)), (q4, .inl (F.2.2.1 0, 24, .inl fun _ => 0))] _ _
  refine cn_putF (ci := 5) (j := 6) (k := 0) (ty := (.array .int)) (ws2 := [(h, .inr (5, [.int 0, .int 0, .int 0, .ref q1, .ref q2, .ref q3, .ref q4, .null, .null])), (q1, .inl (F.2.2.1 0, 12, .inl fun _ => 0)), (q2, .inl (F.2.2.1 0, 12, .inl fun _ => 0)), (q3, .inl (F.2.2.1 0, 24, .inl fun _ => 0)), (q4, .inl (F.2.2.1 0, 24, .inl fun _ => 0))]) ddX5_init_33 rfl ruin5 rutyok5 runm5 (by decide) (ru_mt 60 (by decide +kernel)) rfl rfl (by decide +kernel) rfl rfl rfl (Nat.le_of_ble_eq_true rfl) rfl ?_
  refine cn_aload_n ddX5_init_36 rfl ?_
  refine cn_bipush 24 ddX5_init_37 (by decide) ?_
  refine cn_newa (atype := .int) (kd := 0) (a0 := (24, .inl fun _ => 0)) ddX5_init_39 rfl (by decide) rfl (ru_mt 85 (by decide +kernel)) (fun _ => rfl) (by decide) (by decide) (Nat.le_of_ble_eq_true rfl) (Nat.le_of_ble_eq_true rfl) (Nat.le_of_ble_eq_true rfl) (fun q5 => ?_)
  show cnW F _ _ _ _ _ _ _ _ _ _ _ [(h, .inr (5, [.int 0, .int 0, .int 0, .ref q1, .ref q2, .ref q3, .ref q4, .null, .null])), (q1, .inl (F.2.2.1 0, 12, .inl fun _ => 0)), (q2, .inl (F.2.2.1 0, 12, .inl fun _ => 0)), (q3, .inl (F.2.2.1 0, 24, .inl fun _ => 0)), (q4, .inl (F.2.2.1 0, 24, .inl fun _ => 0)), (q5, .inl (F.2.2.1 0, 24, .inl fun _ => 0))] _ _
  refine cn_putF (ci := 5) (j := 7) (k := 0) (ty := (.array .int)) (ws2 := [(h, .inr (5, [.int 0, .int 0, .int 0, .ref q1, .ref q2, .ref q3, .ref q4, .ref q5, .null])), (q1, .inl (F.2.2.1 0, 12, .inl fun _ => 0)), (q2, .inl (F.2.2.1 0, 12, .inl fun _ => 0)), (q3, .inl (F.2.2.1 0, 24, .inl fun _ => 0)), (q4, .inl (F.2.2.1 0, 24, .inl fun _ => 0)), (q5, .inl (F.2.2.1 0, 24, .inl fun _ => 0))]) ddX5_init_41 rfl ruin5 rutyok5 runm5 (by decide) (ru_mt 62 (by decide +kernel)) rfl rfl (by decide +kernel) rfl rfl rfl (Nat.le_of_ble_eq_true rfl) rfl ?_
  refine cn_aload_n ddX5_init_44 rfl ?_
  refine cn_bipush 24 ddX5_init_45 (by decide) ?_
  refine cn_newa (atype := .int) (kd := 0) (a0 := (24, .inl fun _ => 0)) ddX5_init_47 rfl (by decide) rfl (ru_mt 85 (by decide +kernel)) (fun _ => rfl) (by decide) (by decide) (Nat.le_of_ble_eq_true rfl) (Nat.le_of_ble_eq_true rfl) (Nat.le_of_ble_eq_true rfl) (fun q6 => ?_)
  show cnW F _ _ _ _ _ _ _ _ _ _ _ [(h, .inr (5, [.int 0, .int 0, .int 0, .ref q1, .ref q2, .ref q3, .ref q4, .ref q5, .null])), (q1, .inl (F.2.2.1 0, 12, .inl fun _ => 0)), (q2, .inl (F.2.2.1 0, 12, .inl fun _ => 0)), (q3, .inl (F.2.2.1 0, 24, .inl fun _ => 0)), (q4, .inl (F.2.2.1 0, 24, .inl fun _ => 0)), (q5, .inl (F.2.2.1 0, 24, .inl fun _ => 0)), (q6, .inl (F.2.2.1 0, 24, .inl fun _ => 0))] _ _
  refine cn_putF (ci := 5) (j := 8) (k := 0) (ty := (.array .int)) (ws2 := [(h, .inr (5, [.int 0, .int 0, .int 0, .ref q1, .ref q2, .ref q3, .ref q4, .ref q5, .ref q6])), (q1, .inl (F.2.2.1 0, 12, .inl fun _ => 0)), (q2, .inl (F.2.2.1 0, 12, .inl fun _ => 0)), (q3, .inl (F.2.2.1 0, 24, .inl fun _ => 0)), (q4, .inl (F.2.2.1 0, 24, .inl fun _ => 0)), (q5, .inl (F.2.2.1 0, 24, .inl fun _ => 0)), (q6, .inl (F.2.2.1 0, 24, .inl fun _ => 0))]) ddX5_init_49 rfl ruin5 rutyok5 runm5 (by decide) (ru_mt 64 (by decide +kernel)) rfl rfl (by decide +kernel) rfl rfl rfl (Nat.le_of_ble_eq_true rfl) rfl ?_
  exact cn_ret ddX5_init_52 rfl (Nat.le_of_ble_eq_true rfl) (Nat.le_of_ble_eq_true rfl) ⟨q1, q2, q3, q4, q5, q6, rfl⟩
set_option maxRecDepth 20000 in
set_option maxHeartbeats 4000000 in
theorem kX6_init (F : cnF) (h : Nat) (sz : Nat) : cnC F mmX6_init 1 4 4032 [.ref h] (h, .inr (6, [.null, .null, .null, .null])) sz cnV (fun ws => ∃ q1 q2 q3 q4 : Nat, ws = [(h, .inr (6, [.ref q1, .ref q2, .ref q3, .ref q4])), (q1, .inl (F.2.2.1 1, 144, .inl fun _ => 0)), (q2, .inl (F.2.2.1 0, 1728, .inl fun _ => 0)), (q3, .inl (F.2.2.1 0, 1728, .inl fun _ => 0)), (q4, .inl (F.2.2.1 0, 432, .inl fun _ => 0))]) := by
  refine cnC.of (L := [some (.ref h)]) (by decide) rfl rfl (Nat.le_of_ble_eq_true rfl) rfl ?_
  refine cn_aload_n ddX6_init_0 rfl ?_
  refine cn_obj ddX6_init_1 (ru_mt 91 (by decide +kernel)) (by decide) (Nat.le_of_ble_eq_true rfl) ?_
  refine cn_aload_n ddX6_init_4 rfl ?_
  refine cn_sipush 144 ddX6_init_5 (by decide) ?_
  refine cn_newa (atype := .boolean) (kd := 1) (a0 := (144, .inl fun _ => 0)) ddX6_init_8 rfl (by decide) rfl (ru_mt 108 (by decide +kernel)) (fun _ => rfl) (by decide) (by decide) (Nat.le_of_ble_eq_true rfl) (Nat.le_of_ble_eq_true rfl) (Nat.le_of_ble_eq_true rfl) (fun q1 => ?_)
  show cnW F _ _ _ _ _ _ _ _ _ _ _ [(h, .inr (6, [.null, .null, .null, .null])), (q1, .inl (F.2.2.1 1, 144, .inl fun _ => 0))] _ _
  refine cn_putF (ci := 6) (j := 0) (k := 0) (ty := (.array .boolean)) (ws2 := [(h, .inr (6, [.ref q1, .null, .null, .null])), (q1, .inl (F.2.2.1 1, 144, .inl fun _ => 0))]) ddX6_init_10 rfl ruin6 rutyok6 runm6 (by decide) (ru_mt 92 (by decide +kernel)) rfl rfl (by decide +kernel) rfl rfl rfl (Nat.le_of_ble_eq_true rfl) rfl ?_
  refine cn_aload_n ddX6_init_13 rfl ?_
  refine cn_sipush 1728 ddX6_init_14 (by decide) ?_
  refine cn_newa (atype := .int) (kd := 0) (a0 := (1728, .inl fun _ => 0)) ddX6_init_17 rfl (by decide) rfl (ru_mt 85 (by decide +kernel)) (fun _ => rfl) (by decide) (by decide) (Nat.le_of_ble_eq_true rfl) (Nat.le_of_ble_eq_true rfl) (Nat.le_of_ble_eq_true rfl) (fun q2 => ?_)
  show cnW F _ _ _ _ _ _ _ _ _ _ _ [(h, .inr (6, [.ref q1, .null, .null, .null])), (q1, .inl (F.2.2.1 1, 144, .inl fun _ => 0)), (q2, .inl (F.2.2.1 0, 1728, .inl fun _ => 0))] _ _
  refine cn_putF (ci := 6) (j := 1) (k := 0) (ty := (.array .int)) (ws2 := [(h, .inr (6, [.ref q1, .ref q2, .null, .null])), (q1, .inl (F.2.2.1 1, 144, .inl fun _ => 0)), (q2, .inl (F.2.2.1 0, 1728, .inl fun _ => 0))]) ddX6_init_19 rfl ruin6 rutyok6 runm6 (by decide) (ru_mt 96 (by decide +kernel)) rfl rfl (by decide +kernel) rfl rfl rfl (Nat.le_of_ble_eq_true rfl) rfl ?_
  refine cn_aload_n ddX6_init_22 rfl ?_
  refine cn_sipush 1728 ddX6_init_23 (by decide) ?_
  refine cn_newa (atype := .int) (kd := 0) (a0 := (1728, .inl fun _ => 0)) ddX6_init_26 rfl (by decide) rfl (ru_mt 85 (by decide +kernel)) (fun _ => rfl) (by decide) (by decide) (Nat.le_of_ble_eq_true rfl) (Nat.le_of_ble_eq_true rfl) (Nat.le_of_ble_eq_true rfl) (fun q3 => ?_)
  show cnW F _ _ _ _ _ _ _ _ _ _ _ [(h, .inr (6, [.ref q1, .ref q2, .null, .null])), (q1, .inl (F.2.2.1 1, 144, .inl fun _ => 0)), (q2, .inl (F.2.2.1 0, 1728, .inl fun _ => 0)), (q3, .inl (F.2.2.1 0, 1728, .inl fun _ => 0))] _ _
  refine cn_putF (ci := 6) (j := 2) (k := 0) (ty := (.array .int)) (ws2 := [(h, .inr (6, [.ref q1, .ref q2, .ref q3, .null])), (q1, .inl (F.2.2.1 1, 144, .inl fun _ => 0)), (q2, .inl (F.2.2.1 0, 1728, .inl fun _ => 0)), (q3, .inl (F.2.2.1 0, 1728, .inl fun _ => 0))]) ddX6_init_28 rfl ruin6 rutyok6 runm6 (by decide) (ru_mt 97 (by decide +kernel)) rfl rfl (by decide +kernel) rfl rfl rfl (Nat.le_of_ble_eq_true rfl) rfl ?_
  refine cn_aload_n ddX6_init_31 rfl ?_
  refine cn_sipush 432 ddX6_init_32 (by decide) ?_
  refine cn_newa (atype := .int) (kd := 0) (a0 := (432, .inl fun _ => 0)) ddX6_init_35 rfl (by decide) rfl (ru_mt 85 (by decide +kernel)) (fun _ => rfl) (by decide) (by decide) (Nat.le_of_ble_eq_true rfl) (Nat.le_of_ble_eq_true rfl) (Nat.le_of_ble_eq_true rfl) (fun q4 => ?_)
  show cnW F _ _ _ _ _ _ _ _ _ _ _ [(h, .inr (6, [.ref q1, .ref q2, .ref q3, .null])), (q1, .inl (F.2.2.1 1, 144, .inl fun _ => 0)), (q2, .inl (F.2.2.1 0, 1728, .inl fun _ => 0)), (q3, .inl (F.2.2.1 0, 1728, .inl fun _ => 0)), (q4, .inl (F.2.2.1 0, 432, .inl fun _ => 0))] _ _
  refine cn_putF (ci := 6) (j := 3) (k := 0) (ty := (.array .int)) (ws2 := [(h, .inr (6, [.ref q1, .ref q2, .ref q3, .ref q4])), (q1, .inl (F.2.2.1 1, 144, .inl fun _ => 0)), (q2, .inl (F.2.2.1 0, 1728, .inl fun _ => 0)), (q3, .inl (F.2.2.1 0, 1728, .inl fun _ => 0)), (q4, .inl (F.2.2.1 0, 432, .inl fun _ => 0))]) ddX6_init_37 rfl ruin6 rutyok6 runm6 (by decide) (ru_mt 98 (by decide +kernel)) rfl rfl (by decide +kernel) rfl rfl rfl (Nat.le_of_ble_eq_true rfl) rfl ?_
  exact cn_ret ddX6_init_40 rfl (Nat.le_of_ble_eq_true rfl) (Nat.le_of_ble_eq_true rfl) ⟨q1, q2, q3, q4, rfl⟩
set_option maxRecDepth 20000 in
set_option maxHeartbeats 4000000 in
theorem kX9_init (F : cnF) (h : Nat) (sz : Nat) : cnC F mmX9_init 1 8 612 [.ref h] (h, .inr (9, [.int 0, .null, .null])) sz cnV (fun ws => ∃ q1 q2 q3 q4 q5 q6 q7 q8 : Nat, ws = [(h, .inr (9, [.int 0, .ref q1, .ref q8])), (q1, .inl (F.2.2.1 4, 6, .inr (.inr (.inr (.inr (fun j => [q2, q3, q4, q5, q6, q7][j]?)))))), (q2, .inl (F.2.2.1 0, 100, .inl fun _ => 0)), (q3, .inl (F.2.2.1 0, 100, .inl fun _ => 0)), (q4, .inl (F.2.2.1 0, 100, .inl fun _ => 0)), (q5, .inl (F.2.2.1 0, 100, .inl fun _ => 0)), (q6, .inl (F.2.2.1 0, 100, .inl fun _ => 0)), (q7, .inl (F.2.2.1 0, 100, .inl fun _ => 0)), (q8, .inl (F.2.2.1 0, 6, .inl fun _ => 0))]) := by
  refine cnC.of (L := [some (.ref h)]) (by decide) rfl rfl (Nat.le_of_ble_eq_true rfl) rfl ?_
  refine cn_aload_n ddX9_init_0 rfl ?_
  refine cn_obj ddX9_init_1 (ru_mt 114 (by decide +kernel)) (by decide) (Nat.le_of_ble_eq_true rfl) ?_
  refine cn_aload_n ddX9_init_4 rfl ?_
  refine cn_bipush 6 ddX9_init_5 (by decide) ?_
  refine cn_bipush 100 ddX9_init_7 (by decide) ?_
  refine cn_manew ddX9_init_9 (ru_mt 115 (by decide +kernel)) (Nat.le_of_ble_eq_true rfl) (Nat.le_of_ble_eq_true rfl) (fun q1 q2 q3 q4 q5 q6 q7 => ?_)
  show cnW F _ _ _ _ _ _ _ _ _ _ _ [(h, .inr (9, [.int 0, .null, .null])), (q1, .inl (F.2.2.1 4, 6, .inr (.inr (.inr (.inr (fun j => [q2, q3, q4, q5, q6, q7][j]?)))))), (q2, .inl (F.2.2.1 0, 100, .inl fun _ => 0)), (q3, .inl (F.2.2.1 0, 100, .inl fun _ => 0)), (q4, .inl (F.2.2.1 0, 100, .inl fun _ => 0)), (q5, .inl (F.2.2.1 0, 100, .inl fun _ => 0)), (q6, .inl (F.2.2.1 0, 100, .inl fun _ => 0)), (q7, .inl (F.2.2.1 0, 100, .inl fun _ => 0))] _ _
  refine cn_putF (ci := 9) (j := 1) (k := 0) (ty := (.array (.array .int))) (ws2 := [(h, .inr (9, [.int 0, .ref q1, .null])), (q1, .inl (F.2.2.1 4, 6, .inr (.inr (.inr (.inr (fun j => [q2, q3, q4, q5, q6, q7][j]?)))))), (q2, .inl (F.2.2.1 0, 100, .inl fun _ => 0)), (q3, .inl (F.2.2.1 0, 100, .inl fun _ => 0)), (q4, .inl (F.2.2.1 0, 100, .inl fun _ => 0)), (q5, .inl (F.2.2.1 0, 100, .inl fun _ => 0)), (q6, .inl (F.2.2.1 0, 100, .inl fun _ => 0)), (q7, .inl (F.2.2.1 0, 100, .inl fun _ => 0))]) ddX9_init_13 rfl ruin9 rutyok9 runm9 (by decide) (ru_mt 119 (by decide +kernel)) rfl rfl (by decide +kernel) rfl rfl rfl (Nat.le_of_ble_eq_true rfl) rfl ?_
  refine cn_aload_n ddX9_init_16 rfl ?_
  refine cn_bipush 6 ddX9_init_17 (by decide) ?_
  refine cn_newa (atype := .int) (kd := 0) (a0 := (6, .inl fun _ => 0)) ddX9_init_19 rfl (by decide) rfl (ru_mt 85 (by decide +kernel)) (fun _ => rfl) (by decide) (by decide) (Nat.le_of_ble_eq_true rfl) (Nat.le_of_ble_eq_true rfl) (Nat.le_of_ble_eq_true rfl) (fun q8 => ?_)
  show cnW F _ _ _ _ _ _ _ _ _ _ _ [(h, .inr (9, [.int 0, .ref q1, .null])), (q1, .inl (F.2.2.1 4, 6, .inr (.inr (.inr (.inr (fun j => [q2, q3, q4, q5, q6, q7][j]?)))))), (q2, .inl (F.2.2.1 0, 100, .inl fun _ => 0)), (q3, .inl (F.2.2.1 0, 100, .inl fun _ => 0)), (q4, .inl (F.2.2.1 0, 100, .inl fun _ => 0)), (q5, .inl (F.2.2.1 0, 100, .inl fun _ => 0)), (q6, .inl (F.2.2.1 0, 100, .inl fun _ => 0)), (q7, .inl (F.2.2.1 0, 100, .inl fun _ => 0)), (q8, .inl (F.2.2.1 0, 6, .inl fun _ => 0))] _ _
  refine cn_putF (ci := 9) (j := 2) (k := 0) (ty := (.array .int)) (ws2 := [(h, .inr (9, [.int 0, .ref q1, .ref q8])), (q1, .inl (F.2.2.1 4, 6, .inr (.inr (.inr (.inr (fun j => [q2, q3, q4, q5, q6, q7][j]?)))))), (q2, .inl (F.2.2.1 0, 100, .inl fun _ => 0)), (q3, .inl (F.2.2.1 0, 100, .inl fun _ => 0)), (q4, .inl (F.2.2.1 0, 100, .inl fun _ => 0)), (q5, .inl (F.2.2.1 0, 100, .inl fun _ => 0)), (q6, .inl (F.2.2.1 0, 100, .inl fun _ => 0)), (q7, .inl (F.2.2.1 0, 100, .inl fun _ => 0)), (q8, .inl (F.2.2.1 0, 6, .inl fun _ => 0))]) ddX9_init_21 rfl ruin9 rutyok9 runm9 (by decide) (ru_mt 121 (by decide +kernel)) rfl rfl (by decide +kernel) rfl rfl rfl (Nat.le_of_ble_eq_true rfl) rfl ?_
  exact cn_ret ddX9_init_24 rfl (Nat.le_of_ble_eq_true rfl) (Nat.le_of_ble_eq_true rfl) ⟨q1, q2, q3, q4, q5, q6, q7, q8, rfl⟩
set_option maxRecDepth 20000 in
set_option maxHeartbeats 4000000 in
theorem kX2_init (F : cnF) (h : Nat) (sz : Nat) : cnC F mmX2_init 1 5 130 [.ref h] (h, .inr (2, [.int 0, .null, .null, .null, .null, .null])) sz cnV (fun ws => ∃ q1 q2 q3 q4 q5 : Nat, ws = [(h, .inr (2, [.int 0, .ref q1, .ref q2, .ref q3, .ref q4, .ref q5])), (q1, .inl (F.2.2.1 0, 30, .inl fun _ => 0)), (q2, .inl (F.2.2.1 0, 30, .inl fun _ => 0)), (q3, .inl (F.2.2.1 0, 30, .inl fun _ => 0)), (q4, .inl (F.2.2.1 0, 30, .inl fun _ => 0)), (q5, .inl (F.2.2.1 0, 10, .inl fun _ => 0))]) := by
  refine cnC.of (L := [some (.ref h)]) (by decide) rfl rfl (Nat.le_of_ble_eq_true rfl) rfl ?_
  refine cn_aload_n ddX2_init_0 rfl ?_
  refine cn_obj ddX2_init_1 (ru_mt 135 (by decide +kernel)) (by decide) (Nat.le_of_ble_eq_true rfl) ?_
  refine cn_aload_n ddX2_init_4 rfl ?_
  refine cn_bipush 30 ddX2_init_5 (by decide) ?_
  refine cn_newa (atype := .int) (kd := 0) (a0 := (30, .inl fun _ => 0)) ddX2_init_7 rfl (by decide) rfl (ru_mt 85 (by decide +kernel)) (fun _ => rfl) (by decide) (by decide) (Nat.le_of_ble_eq_true rfl) (Nat.le_of_ble_eq_true rfl) (Nat.le_of_ble_eq_true rfl) (fun q1 => ?_)
  show cnW F _ _ _ _ _ _ _ _ _ _ _ [(h, .inr (2, [.int 0, .null, .null, .null, .null, .null])), (q1, .inl (F.2.2.1 0, 30, .inl fun _ => 0))] _ _
  refine cn_putF (ci := 2) (j := 1) (k := 0) (ty := (.array .int)) (ws2 := [(h, .inr (2, [.int 0, .ref q1, .null, .null, .null, .null])), (q1, .inl (F.2.2.1 0, 30, .inl fun _ => 0))]) ddX2_init_9 rfl ruin2 rutyok2 runm2 (by decide) (ru_mt 138 (by decide +kernel)) rfl rfl (by decide +kernel) rfl rfl rfl (Nat.le_of_ble_eq_true rfl) rfl ?_
  refine cn_aload_n ddX2_init_12 rfl ?_
  refine cn_bipush 30 ddX2_init_13 (by decide) ?_
  refine cn_newa (atype := .int) (kd := 0) (a0 := (30, .inl fun _ => 0)) ddX2_init_15 rfl (by decide) rfl (ru_mt 85 (by decide +kernel)) (fun _ => rfl) (by decide) (by decide) (Nat.le_of_ble_eq_true rfl) (Nat.le_of_ble_eq_true rfl) (Nat.le_of_ble_eq_true rfl) (fun q2 => ?_)
  show cnW F _ _ _ _ _ _ _ _ _ _ _ [(h, .inr (2, [.int 0, .ref q1, .null, .null, .null, .null])), (q1, .inl (F.2.2.1 0, 30, .inl fun _ => 0)), (q2, .inl (F.2.2.1 0, 30, .inl fun _ => 0))] _ _
  refine cn_putF (ci := 2) (j := 2) (k := 0) (ty := (.array .int)) (ws2 := [(h, .inr (2, [.int 0, .ref q1, .ref q2, .null, .null, .null])), (q1, .inl (F.2.2.1 0, 30, .inl fun _ => 0)), (q2, .inl (F.2.2.1 0, 30, .inl fun _ => 0))]) ddX2_init_17 rfl ruin2 rutyok2 runm2 (by decide) (ru_mt 139 (by decide +kernel)) rfl rfl (by decide +kernel) rfl rfl rfl (Nat.le_of_ble_eq_true rfl) rfl ?_
  refine cn_aload_n ddX2_init_20 rfl ?_
  refine cn_bipush 30 ddX2_init_21 (by decide) ?_
  refine cn_newa (atype := .int) (kd := 0) (a0 := (30, .inl fun _ => 0)) ddX2_init_23 rfl (by decide) rfl (ru_mt 85 (by decide +kernel)) (fun _ => rfl) (by decide) (by decide) (Nat.le_of_ble_eq_true rfl) (Nat.le_of_ble_eq_true rfl) (Nat.le_of_ble_eq_true rfl) (fun q3 => ?_)
  show cnW F _ _ _ _ _ _ _ _ _ _ _ [(h, .inr (2, [.int 0, .ref q1, .ref q2, .null, .null, .null])), (q1, .inl (F.2.2.1 0, 30, .inl fun _ => 0)), (q2, .inl (F.2.2.1 0, 30, .inl fun _ => 0)), (q3, .inl (F.2.2.1 0, 30, .inl fun _ => 0))] _ _
  refine cn_putF (ci := 2) (j := 3) (k := 0) (ty := (.array .int)) (ws2 := [(h, .inr (2, [.int 0, .ref q1, .ref q2, .ref q3, .null, .null])), (q1, .inl (F.2.2.1 0, 30, .inl fun _ => 0)), (q2, .inl (F.2.2.1 0, 30, .inl fun _ => 0)), (q3, .inl (F.2.2.1 0, 30, .inl fun _ => 0))]) ddX2_init_25 rfl ruin2 rutyok2 runm2 (by decide) (ru_mt 140 (by decide +kernel)) rfl rfl (by decide +kernel) rfl rfl rfl (Nat.le_of_ble_eq_true rfl) rfl ?_
  refine cn_aload_n ddX2_init_28 rfl ?_
  refine cn_bipush 30 ddX2_init_29 (by decide) ?_
  refine cn_newa (atype := .int) (kd := 0) (a0 := (30, .inl fun _ => 0)) ddX2_init_31 rfl (by decide) rfl (ru_mt 85 (by decide +kernel)) (fun _ => rfl) (by decide) (by decide) (Nat.le_of_ble_eq_true rfl) (Nat.le_of_ble_eq_true rfl) (Nat.le_of_ble_eq_true rfl) (fun q4 => ?_)
  show cnW F _ _ _ _ _ _ _ _ _ _ _ [(h, .inr (2, [.int 0, .ref q1, .ref q2, .ref q3, .null, .null])), (q1, .inl (F.2.2.1 0, 30, .inl fun _ => 0)), (q2, .inl (F.2.2.1 0, 30, .inl fun _ => 0)), (q3, .inl (F.2.2.1 0, 30, .inl fun _ => 0)), (q4, .inl (F.2.2.1 0, 30, .inl fun _ => 0))] _ _
  refine cn_putF (ci := 2) (j := 4) (k := 0) (ty := (.array .int)) (ws2 := [(h, .inr (2, [.int 0, .ref q1, .ref q2, .ref q3, .ref q4, .null])), (q1, .inl (F.2.2.1 0, 30, .inl fun _ => 0)), (q2, .inl (F.2.2.1 0, 30, .inl fun _ => 0)), (q3, .inl (F.2.2.1 0, 30, .inl fun _ => 0)), (q4, .inl (F.2.2.1 0, 30, .inl fun _ => 0))]) ddX2_init_33 rfl ruin2 rutyok2 runm2 (by decide) (ru_mt 141 (by decide +kernel)) rfl rfl (by decide +kernel) rfl rfl rfl (Nat.le_of_ble_eq_true rfl) rfl ?_
  refine cn_aload_n ddX2_init_36 rfl ?_
  refine cn_bipush 10 ddX2_init_37 (by decide) ?_
  refine cn_newa (atype := .int) (kd := 0) (a0 := (10, .inl fun _ => 0)) ddX2_init_39 rfl (by decide) rfl (ru_mt 85 (by decide +kernel)) (fun _ => rfl) (by decide) (by decide) (Nat.le_of_ble_eq_true rfl) (Nat.le_of_ble_eq_true rfl) (Nat.le_of_ble_eq_true rfl) (fun q5 => ?_)
  show cnW F _ _ _ _ _ _ _ _ _ _ _ [(h, .inr (2, [.int 0, .ref q1, .ref q2, .ref q3, .ref q4, .null])), (q1, .inl (F.2.2.1 0, 30, .inl fun _ => 0)), (q2, .inl (F.2.2.1 0, 30, .inl fun _ => 0)), (q3, .inl (F.2.2.1 0, 30, .inl fun _ => 0)), (q4, .inl (F.2.2.1 0, 30, .inl fun _ => 0)), (q5, .inl (F.2.2.1 0, 10, .inl fun _ => 0))] _ _
  refine cn_putF (ci := 2) (j := 5) (k := 0) (ty := (.array .int)) (ws2 := [(h, .inr (2, [.int 0, .ref q1, .ref q2, .ref q3, .ref q4, .ref q5])), (q1, .inl (F.2.2.1 0, 30, .inl fun _ => 0)), (q2, .inl (F.2.2.1 0, 30, .inl fun _ => 0)), (q3, .inl (F.2.2.1 0, 30, .inl fun _ => 0)), (q4, .inl (F.2.2.1 0, 30, .inl fun _ => 0)), (q5, .inl (F.2.2.1 0, 10, .inl fun _ => 0))]) ddX2_init_41 rfl ruin2 rutyok2 runm2 (by decide) (ru_mt 142 (by decide +kernel)) rfl rfl (by decide +kernel) rfl rfl rfl (Nat.le_of_ble_eq_true rfl) rfl ?_
  exact cn_ret ddX2_init_44 rfl (Nat.le_of_ble_eq_true rfl) (Nat.le_of_ble_eq_true rfl) ⟨q1, q2, q3, q4, q5, rfl⟩
set_option maxRecDepth 20000 in
set_option maxHeartbeats 4000000 in
theorem kX1_init (F : cnF) (h : Nat) (sz : Nat) : cnC F mmX1_init 1 2 16 [.ref h] (h, .inr (1, [.int 0, .null, .null])) sz cnV (fun ws => ∃ q1 q2 : Nat, ws = [(h, .inr (1, [.int 0, .ref q1, .ref q2])), (q1, .inl (F.2.2.1 0, 8, .inl fun _ => 0)), (q2, .inl (F.2.2.1 0, 8, .inl fun _ => 0))]) := by
  refine cnC.of (L := [some (.ref h)]) (by decide) rfl rfl (Nat.le_of_ble_eq_true rfl) rfl ?_
  refine cn_aload_n ddX1_init_0 rfl ?_
  refine cn_obj ddX1_init_1 (ru_mt 161 (by decide +kernel)) (by decide) (Nat.le_of_ble_eq_true rfl) ?_
  refine cn_aload_n ddX1_init_4 rfl ?_
  refine cn_bipush 8 ddX1_init_5 (by decide) ?_
  refine cn_newa (atype := .int) (kd := 0) (a0 := (8, .inl fun _ => 0)) ddX1_init_7 rfl (by decide) rfl (ru_mt 85 (by decide +kernel)) (fun _ => rfl) (by decide) (by decide) (Nat.le_of_ble_eq_true rfl) (Nat.le_of_ble_eq_true rfl) (Nat.le_of_ble_eq_true rfl) (fun q1 => ?_)
  show cnW F _ _ _ _ _ _ _ _ _ _ _ [(h, .inr (1, [.int 0, .null, .null])), (q1, .inl (F.2.2.1 0, 8, .inl fun _ => 0))] _ _
  refine cn_putF (ci := 1) (j := 1) (k := 0) (ty := (.array .int)) (ws2 := [(h, .inr (1, [.int 0, .ref q1, .null])), (q1, .inl (F.2.2.1 0, 8, .inl fun _ => 0))]) ddX1_init_9 rfl ruin1 rutyok1 runm1 (by decide) (ru_mt 164 (by decide +kernel)) rfl rfl (by decide +kernel) rfl rfl rfl (Nat.le_of_ble_eq_true rfl) rfl ?_
  refine cn_aload_n ddX1_init_12 rfl ?_
  refine cn_bipush 8 ddX1_init_13 (by decide) ?_
  refine cn_newa (atype := .int) (kd := 0) (a0 := (8, .inl fun _ => 0)) ddX1_init_15 rfl (by decide) rfl (ru_mt 85 (by decide +kernel)) (fun _ => rfl) (by decide) (by decide) (Nat.le_of_ble_eq_true rfl) (Nat.le_of_ble_eq_true rfl) (Nat.le_of_ble_eq_true rfl) (fun q2 => ?_)
  show cnW F _ _ _ _ _ _ _ _ _ _ _ [(h, .inr (1, [.int 0, .ref q1, .null])), (q1, .inl (F.2.2.1 0, 8, .inl fun _ => 0)), (q2, .inl (F.2.2.1 0, 8, .inl fun _ => 0))] _ _
  refine cn_putF (ci := 1) (j := 2) (k := 0) (ty := (.array .int)) (ws2 := [(h, .inr (1, [.int 0, .ref q1, .ref q2])), (q1, .inl (F.2.2.1 0, 8, .inl fun _ => 0)), (q2, .inl (F.2.2.1 0, 8, .inl fun _ => 0))]) ddX1_init_17 rfl ruin1 rutyok1 runm1 (by decide) (ru_mt 165 (by decide +kernel)) rfl rfl (by decide +kernel) rfl rfl rfl (Nat.le_of_ble_eq_true rfl) rfl ?_
  exact cn_ret ddX1_init_20 rfl (Nat.le_of_ble_eq_true rfl) (Nat.le_of_ble_eq_true rfl) ⟨q1, q2, rfl⟩
set_option maxRecDepth 20000 in
set_option maxHeartbeats 4000000 in
theorem kX7_init (F : cnF) (h : Nat) (sz : Nat) : cnC F mmX7_init 1 1 24 [.ref h] (h, .inr (7, [.int 0, .int 0, .null])) sz cnV (fun ws => ∃ q1 : Nat, ws = [(h, .inr (7, [.int 0, .int 0, .ref q1])), (q1, .inl (F.2.2.1 0, 24, .inl fun _ => 0))]) := by
  refine cnC.of (L := [some (.ref h)]) (by decide) rfl rfl (Nat.le_of_ble_eq_true rfl) rfl ?_
  refine cn_aload_n ddX7_init_0 rfl ?_
  refine cn_obj ddX7_init_1 (ru_mt 297 (by decide +kernel)) (by decide) (Nat.le_of_ble_eq_true rfl) ?_
  refine cn_aload_n ddX7_init_4 rfl ?_
  refine cn_bipush 24 ddX7_init_5 (by decide) ?_
  refine cn_newa (atype := .int) (kd := 0) (a0 := (24, .inl fun _ => 0)) ddX7_init_7 rfl (by decide) rfl (ru_mt 85 (by decide +kernel)) (fun _ => rfl) (by decide) (by decide) (Nat.le_of_ble_eq_true rfl) (Nat.le_of_ble_eq_true rfl) (Nat.le_of_ble_eq_true rfl) (fun q1 => ?_)
  show cnW F _ _ _ _ _ _ _ _ _ _ _ [(h, .inr (7, [.int 0, .int 0, .null])), (q1, .inl (F.2.2.1 0, 24, .inl fun _ => 0))] _ _
  refine cn_putF (ci := 7) (j := 2) (k := 0) (ty := (.array .int)) (ws2 := [(h, .inr (7, [.int 0, .int 0, .ref q1])), (q1, .inl (F.2.2.1 0, 24, .inl fun _ => 0))]) ddX7_init_9 rfl ruin7 rutyok7 runm7 (by decide) (ru_mt 302 (by decide +kernel)) rfl rfl (by decide +kernel) rfl rfl rfl (Nat.le_of_ble_eq_true rfl) rfl ?_
  exact cn_ret ddX7_init_12 rfl (Nat.le_of_ble_eq_true rfl) (Nat.le_of_ble_eq_true rfl) ⟨q1, rfl⟩
set_option maxRecDepth 20000 in
set_option maxHeartbeats 4000000 in
theorem kX4_init (F : cnF) (h : Nat) (sz : Nat) : cnC F mmX4_init 1 1 6 [.ref h] (h, .inr (4, [.null, .int 0, .int 0, .int 0, .int 0, .int 0, .int 0, .null, .null])) sz cnV (fun ws => ∃ q1 : Nat, ws = [(h, .inr (4, [.ref q1, .int 0, .int 0, .int 0, .int 0, .int 0, .int 0, .ref q1, .ref q1])), (q1, .inl (F.2.2.1 0, 6, .inl fun _ => 0))]) := by
  refine cnC.of (L := [some (.ref h)]) (by decide) rfl rfl (Nat.le_of_ble_eq_true rfl) rfl ?_
  refine cn_aload_n ddX4_init_0 rfl ?_
  refine cn_obj ddX4_init_1 (ru_mt 262 (by decide +kernel)) (by decide) (Nat.le_of_ble_eq_true rfl) ?_
  refine cn_aload_n ddX4_init_4 rfl ?_
  refine cn_bipush 6 ddX4_init_5 (by decide) ?_
  refine cn_newa (atype := .int) (kd := 0) (a0 := (6, .inl fun _ => 0)) ddX4_init_7 rfl (by decide) rfl (ru_mt 85 (by decide +kernel)) (fun _ => rfl) (by decide) (by decide) (Nat.le_of_ble_eq_true rfl) (Nat.le_of_ble_eq_true rfl) (Nat.le_of_ble_eq_true rfl) (fun q1 => ?_)
  show cnW F _ _ _ _ _ _ _ _ _ _ _ [(h, .inr (4, [.null, .int 0, .int 0, .int 0, .int 0, .int 0, .int 0, .null, .null])), (q1, .inl (F.2.2.1 0, 6, .inl fun _ => 0))] _ _
  refine cn_putF (ci := 4) (j := 8) (k := 0) (ty := (.array .int)) (ws2 := [(h, .inr (4, [.null, .int 0, .int 0, .int 0, .int 0, .int 0, .int 0, .null, .ref q1])), (q1, .inl (F.2.2.1 0, 6, .inl fun _ => 0))]) ddX4_init_9 rfl ruin4 rutyok4 runm4 (by decide) (ru_mt 271 (by decide +kernel)) rfl rfl (by decide +kernel) rfl rfl rfl (Nat.le_of_ble_eq_true rfl) rfl ?_
  refine cn_aload_n ddX4_init_12 rfl ?_
  refine cn_aload_n ddX4_init_13 rfl ?_
  refine cn_get (ci := 4) (j := 8) (k := 0) (v := .ref q1) ddX4_init_14 rfl ruin4 (by decide) (ru_mt 271 (by decide +kernel)) rfl rfl ?_
  refine cn_put (ci := 4) (j := 0) (k := 0) (ty := (.array .int)) (ws2 := [(h, .inr (4, [.ref q1, .int 0, .int 0, .int 0, .int 0, .int 0, .int 0, .null, .ref q1])), (q1, .inl (F.2.2.1 0, 6, .inl fun _ => 0))]) ddX4_init_17 rfl ruin4 rutyok4 runm4 (by decide) (ru_mt 263 (by decide +kernel)) rfl (by decide +kernel) rfl rfl rfl (Nat.le_of_ble_eq_true rfl) rfl ?_
  refine cn_aload_n ddX4_init_20 rfl ?_
  refine cn_aload_n ddX4_init_21 rfl ?_
  refine cn_get (ci := 4) (j := 8) (k := 0) (v := .ref q1) ddX4_init_22 rfl ruin4 (by decide) (ru_mt 271 (by decide +kernel)) rfl rfl ?_
  refine cn_put (ci := 4) (j := 7) (k := 0) (ty := (.array .int)) (ws2 := [(h, .inr (4, [.ref q1, .int 0, .int 0, .int 0, .int 0, .int 0, .int 0, .ref q1, .ref q1])), (q1, .inl (F.2.2.1 0, 6, .inl fun _ => 0))]) ddX4_init_25 rfl ruin4 rutyok4 runm4 (by decide) (ru_mt 270 (by decide +kernel)) rfl (by decide +kernel) rfl rfl rfl (Nat.le_of_ble_eq_true rfl) rfl ?_
  exact cn_ret ddX4_init_28 rfl (Nat.le_of_ble_eq_true rfl) (Nat.le_of_ble_eq_true rfl) ⟨q1, rfl⟩
set_option maxRecDepth 20000 in
set_option maxHeartbeats 4000000 in
theorem kX8_init (F : cnF) (h u w : Nat) (sz : Nat) : cnC F mmX8_init 1 3 72 [.ref h, .ref u, .ref w] (h, .inr (8, [.int 0, .int 0, .int 0, .int 0, .int 0, .null, .null, .null, .null, .null])) sz cnV (fun ws => ∃ q1 q2 q3 : Nat, ws = [(h, .inr (8, [.int 0, .int 0, .int 0, .int 0, .int 0, .ref q1, .ref q2, .ref q3, .ref u, .ref w])), (q1, .inl (F.2.2.1 0, 24, .inl fun _ => 0)), (q2, .inl (F.2.2.1 2, 24, .inr (.inl fun _ => 0))), (q3, .inl (F.2.2.1 0, 24, .inl fun _ => 0))]) := by
  refine cnC.of (L := [some (.ref h), some (.ref u), some (.ref w)]) (by decide) rfl rfl (Nat.le_of_ble_eq_true rfl) rfl ?_
  refine cn_aload_n ddX8_init_0 rfl ?_
  refine cn_obj ddX8_init_1 (ru_mt 205 (by decide +kernel)) (by decide) (Nat.le_of_ble_eq_true rfl) ?_
  refine cn_aload_n ddX8_init_4 rfl ?_
  refine cn_bipush 24 ddX8_init_5 (by decide) ?_
  refine cn_newa (atype := .int) (kd := 0) (a0 := (24, .inl fun _ => 0)) ddX8_init_7 rfl (by decide) rfl (ru_mt 85 (by decide +kernel)) (fun _ => rfl) (by decide) (by decide) (Nat.le_of_ble_eq_true rfl) (Nat.le_of_ble_eq_true rfl) (Nat.le_of_ble_eq_true rfl) (fun q1 => ?_)
  show cnW F _ _ _ _ _ _ _ _ _ _ _ [(h, .inr (8, [.int 0, .int 0, .int 0, .int 0, .int 0, .null, .null, .null, .null, .null])), (q1, .inl (F.2.2.1 0, 24, .inl fun _ => 0))] _ _
  refine cn_putF (ci := 8) (j := 5) (k := 0) (ty := (.array .int)) (ws2 := [(h, .inr (8, [.int 0, .int 0, .int 0, .int 0, .int 0, .ref q1, .null, .null, .null, .null])), (q1, .inl (F.2.2.1 0, 24, .inl fun _ => 0))]) ddX8_init_9 rfl ruin8 rutyok8 runm8 (by decide) (ru_mt 215 (by decide +kernel)) rfl rfl (by decide +kernel) rfl rfl rfl (Nat.le_of_ble_eq_true rfl) rfl ?_
  refine cn_aload_n ddX8_init_12 rfl ?_
  refine cn_bipush 24 ddX8_init_13 (by decide) ?_
  refine cn_newa (atype := .long) (kd := 2) (a0 := (24, .inr (.inl fun _ => 0))) ddX8_init_15 rfl (by decide) rfl (ru_mt 241 (by decide +kernel)) (fun _ => rfl) (by decide) (by decide) (Nat.le_of_ble_eq_true rfl) (Nat.le_of_ble_eq_true rfl) (Nat.le_of_ble_eq_true rfl) (fun q2 => ?_)
  show cnW F _ _ _ _ _ _ _ _ _ _ _ [(h, .inr (8, [.int 0, .int 0, .int 0, .int 0, .int 0, .ref q1, .null, .null, .null, .null])), (q1, .inl (F.2.2.1 0, 24, .inl fun _ => 0)), (q2, .inl (F.2.2.1 2, 24, .inr (.inl fun _ => 0)))] _ _
  refine cn_putF (ci := 8) (j := 6) (k := 0) (ty := (.array .long)) (ws2 := [(h, .inr (8, [.int 0, .int 0, .int 0, .int 0, .int 0, .ref q1, .ref q2, .null, .null, .null])), (q1, .inl (F.2.2.1 0, 24, .inl fun _ => 0)), (q2, .inl (F.2.2.1 2, 24, .inr (.inl fun _ => 0)))]) ddX8_init_17 rfl ruin8 rutyok8 runm8 (by decide) (ru_mt 216 (by decide +kernel)) rfl rfl (by decide +kernel) rfl rfl rfl (Nat.le_of_ble_eq_true rfl) rfl ?_
  refine cn_aload_n ddX8_init_20 rfl ?_
  refine cn_bipush 24 ddX8_init_21 (by decide) ?_
  refine cn_newa (atype := .int) (kd := 0) (a0 := (24, .inl fun _ => 0)) ddX8_init_23 rfl (by decide) rfl (ru_mt 85 (by decide +kernel)) (fun _ => rfl) (by decide) (by decide) (Nat.le_of_ble_eq_true rfl) (Nat.le_of_ble_eq_true rfl) (Nat.le_of_ble_eq_true rfl) (fun q3 => ?_)
  show cnW F _ _ _ _ _ _ _ _ _ _ _ [(h, .inr (8, [.int 0, .int 0, .int 0, .int 0, .int 0, .ref q1, .ref q2, .null, .null, .null])), (q1, .inl (F.2.2.1 0, 24, .inl fun _ => 0)), (q2, .inl (F.2.2.1 2, 24, .inr (.inl fun _ => 0))), (q3, .inl (F.2.2.1 0, 24, .inl fun _ => 0))] _ _
  refine cn_putF (ci := 8) (j := 7) (k := 0) (ty := (.array .int)) (ws2 := [(h, .inr (8, [.int 0, .int 0, .int 0, .int 0, .int 0, .ref q1, .ref q2, .ref q3, .null, .null])), (q1, .inl (F.2.2.1 0, 24, .inl fun _ => 0)), (q2, .inl (F.2.2.1 2, 24, .inr (.inl fun _ => 0))), (q3, .inl (F.2.2.1 0, 24, .inl fun _ => 0))]) ddX8_init_25 rfl ruin8 rutyok8 runm8 (by decide) (ru_mt 217 (by decide +kernel)) rfl rfl (by decide +kernel) rfl rfl rfl (Nat.le_of_ble_eq_true rfl) rfl ?_
  refine cn_aload_n ddX8_init_28 rfl ?_
  refine cn_aload_n ddX8_init_29 rfl ?_
  refine cn_putF (ci := 8) (j := 8) (k := 0) (ty := (.object "RubbedSheets$School")) (ws2 := [(h, .inr (8, [.int 0, .int 0, .int 0, .int 0, .int 0, .ref q1, .ref q2, .ref q3, .ref u, .null])), (q1, .inl (F.2.2.1 0, 24, .inl fun _ => 0)), (q2, .inl (F.2.2.1 2, 24, .inr (.inl fun _ => 0))), (q3, .inl (F.2.2.1 0, 24, .inl fun _ => 0))]) ddX8_init_30 rfl ruin8 rutyok8 runm8 (by decide) (ru_mt 218 (by decide +kernel)) rfl rfl (by decide +kernel) rfl rfl rfl (Nat.le_of_ble_eq_true rfl) rfl ?_
  refine cn_aload_n ddX8_init_33 rfl ?_
  refine cn_aload_n ddX8_init_34 rfl ?_
  refine cn_putF (ci := 8) (j := 9) (k := 0) (ty := (.object "RubbedSheets$Sheets")) (ws2 := [(h, .inr (8, [.int 0, .int 0, .int 0, .int 0, .int 0, .ref q1, .ref q2, .ref q3, .ref u, .ref w])), (q1, .inl (F.2.2.1 0, 24, .inl fun _ => 0)), (q2, .inl (F.2.2.1 2, 24, .inr (.inl fun _ => 0))), (q3, .inl (F.2.2.1 0, 24, .inl fun _ => 0))]) ddX8_init_35 rfl ruin8 rutyok8 runm8 (by decide) (ru_mt 219 (by decide +kernel)) rfl rfl (by decide +kernel) rfl rfl rfl (Nat.le_of_ble_eq_true rfl) rfl ?_
  exact cn_ret ddX8_init_38 rfl (Nat.le_of_ble_eq_true rfl) (Nat.le_of_ble_eq_true rfl) ⟨q1, q2, q3, rfl⟩
