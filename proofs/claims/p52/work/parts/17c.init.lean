theorem dX5_init_0 : decode cX5_init 0 = .ok (.aload_n 0, 1) := dk_42 rfl
theorem dX5_init_1 : decode cX5_init 1 = .ok (.invokespecial 3, 3) := dk_183 rfl rfl rfl rfl
theorem dX5_init_4 : decode cX5_init 4 = .ok (.aload_n 0, 1) := dk_42 rfl
theorem dX5_init_5 : decode cX5_init 5 = .ok (.new 9, 3) := dk_187 rfl rfl rfl rfl
theorem dX5_init_8 : decode cX5_init 8 = .ok (.dup, 1) := dk_89 rfl
theorem dX5_init_9 : decode cX5_init 9 = .ok (.bipush 8, 2) := dk_16 rfl rfl (by decide)
theorem dX5_init_11 : decode cX5_init 11 = .ok (.bipush 10, 2) := dk_16 rfl rfl (by decide)
theorem dX5_init_13 : decode cX5_init 13 = .ok (.invokespecial 11, 3) := dk_183 rfl rfl rfl rfl
theorem dX5_init_16 : decode cX5_init 16 = .ok (.putfield 14, 3) := dk_181 rfl rfl rfl rfl
theorem dX5_init_19 : decode cX5_init 19 = .ok (.aload_n 0, 1) := dk_42 rfl
theorem dX5_init_20 : decode cX5_init 20 = .ok (.iconst 0, 1) := dk_3 rfl
theorem dX5_init_21 : decode cX5_init 21 = .ok (.putfield 20, 3) := dk_181 rfl rfl rfl rfl
theorem dX5_init_24 : decode cX5_init 24 = .ok (.aload_n 0, 1) := dk_42 rfl
theorem dX5_init_25 : decode cX5_init 25 = .ok (.iconst 0, 1) := dk_3 rfl
theorem dX5_init_26 : decode cX5_init 26 = .ok (.putfield 24, 3) := dk_181 rfl rfl rfl rfl
theorem dX5_init_29 : decode cX5_init 29 = .ok (.aload_n 0, 1) := dk_42 rfl
theorem dX5_init_30 : decode cX5_init 30 = .ok (.iconst 0, 1) := dk_3 rfl
theorem dX5_init_31 : decode cX5_init 31 = .ok (.putfield 27, 3) := dk_181 rfl rfl rfl rfl
theorem dX5_init_34 : decode cX5_init 34 = .ok (.aload_n 0, 1) := dk_42 rfl
theorem dX5_init_35 : decode cX5_init 35 = .ok (.iconst 0, 1) := dk_3 rfl
theorem dX5_init_36 : decode cX5_init 36 = .ok (.putfield 30, 3) := dk_181 rfl rfl rfl rfl
theorem dX5_init_39 : decode cX5_init 39 = .ok (.aload_n 0, 1) := dk_42 rfl
theorem dX5_init_40 : decode cX5_init 40 = .ok (.iconst 0, 1) := dk_3 rfl
theorem dX5_init_41 : decode cX5_init 41 = .ok (.putfield 34, 3) := dk_181 rfl rfl rfl rfl
theorem dX5_init_44 : decode cX5_init 44 = .ok (.aload_n 0, 1) := dk_42 rfl
theorem dX5_init_45 : decode cX5_init 45 = .ok (.iconst 0, 1) := dk_3 rfl
theorem dX5_init_46 : decode cX5_init 46 = .ok (.putfield 37, 3) := dk_181 rfl rfl rfl rfl
theorem dX5_init_49 : decode cX5_init 49 = .ok (.aload_n 0, 1) := dk_42 rfl
theorem dX5_init_50 : decode cX5_init 50 = .ok (.iconst 0, 1) := dk_3 rfl
theorem dX5_init_51 : decode cX5_init 51 = .ok (.putfield 40, 3) := dk_181 rfl rfl rfl rfl
theorem dX5_init_54 : decode cX5_init 54 = .ok (.aload_n 0, 1) := dk_42 rfl
theorem dX5_init_55 : decode cX5_init 55 = .ok (.iconst 0, 1) := dk_3 rfl
theorem dX5_init_56 : decode cX5_init 56 = .ok (.putfield 43, 3) := dk_181 rfl rfl rfl rfl
theorem dX5_init_59 : decode cX5_init 59 = .ok (.return_, 1) := dk_177 rfl
set_option maxHeartbeats 4000000 in
set_option maxRecDepth 100000 in
theorem i_N (l : Launch) (g : Gx) (h0 : Nat) : cV l g yX5_init cX5_init 1 2 43 2 84 [.ref h0] [(cO5_niiiiiiii h0 0 0 0 0 0 0 0 0)] (fun w => ∃ nr nrc, w = [(cO5_riiiiiiii h0 nr 0 0 0 0 0 0 0 0), (cO8_iiri nr 8 10 nrc 0), (cAI g nrc 80 (fun _ => 0))]) := by
  refine cV.of (by decide) (Nat.le_of_ble_eq_true rfl) ?_
  intro p e s m args below meth c A X hr hi
  refine k_lveq [(0, .ref h0)] rfl ?_
  refine k_aload_n X dX5_init_0 0 rfl ?_
  refine k_objInit X dX5_init_1 mw123 mw11 mw12 (Nat.le_of_ble_eq_true rfl) (Nat.le_of_ble_eq_true rfl) ?_
  refine k_aload_n X dX5_init_4 0 rfl ?_
  refine k_new (ci := 8) (fs := [.int 0, .int 0, .null, .int 0]) X inlX8 rfl tyX8_ok dX5_init_5 mw124 mw63 mw64 (fun j hj => by rcases (show j = 0 ∨ j = 1 ∨ j = 2 ∨ j = 3 by omega) with rfl | rfl | rfl | rfl <;> rfl) (Nat.le_of_ble_eq_true rfl) (Nat.le_of_ble_eq_true rfl) (fun q_1 => ?_)
  refine k_ws [(cO5_niiiiiiii h0 0 0 0 0 0 0 0 0), (cO8_iini q_1 0 0 0)] rfl ?_
  refine k_wide 1 4 (Nat.le_of_ble_eq_true rfl) (Nat.le_of_ble_eq_true rfl) ?_
  refine k_dup X dX5_init_8 rfl ?_
  refine k_bipush (v := 8) X dX5_init_9 (by decide) ?_
  refine k_bipush (v := 10) X dX5_init_11 (by decide) ?_
  refine k_callII (n := 2) (As := [.int 8, .int 10]) (st := [.ref q_1, .ref h0]) X [(cO8_iini q_1 0 0 0)] [(cO5_niiiiiiii h0 0 0 0 0 0 0 0 0)] [1] [0] (i_T_8_10 l g q_1) dX5_init_13 mw134 mw97 mw64 mw98 rfl yk_yX8_init_2 rfl (Nat.le_of_ble_eq_true rfl) (Nat.le_of_ble_eq_true rfl) (Nat.le_of_ble_eq_true rfl) (Nat.le_of_ble_eq_true rfl) (Nat.le_of_ble_eq_true rfl) rfl rfl (by decide) rfl (by decide) (by decide) ?_
  rintro w ⟨qc_2, rfl⟩
  refine k_ws [(cO5_niiiiiiii h0 0 0 0 0 0 0 0 0), (cO8_iiri q_1 8 10 qc_2 0), (cAI g qc_2 80 (fun _ => 0))] rfl ?_
  refine k_wide 2 84 (Nat.le_of_ble_eq_true rfl) (Nat.le_of_ble_eq_true rfl) ?_
  refine k_putF (ci := 5) [(cO5_riiiiiiii h0 q_1 0 0 0 0 0 0 0 0), (cO8_iiri q_1 8 10 qc_2 0), (cAI g qc_2 80 (fun _ => 0))] X hi inlX5 rfl tyX5_ok nmX5 0 (by decide) rfl rfl dX5_init_16 mw125 0 rfl rfl rfl (Nat.le_of_ble_eq_true rfl) rfl ?_
  refine k_aload_n X dX5_init_19 0 rfl ?_
  refine k_iconst (v := 0) X dX5_init_20 (by decide) ?_
  refine k_put (ci := 5) [(cO5_riiiiiiii h0 q_1 0 0 0 0 0 0 0 0), (cO8_iiri q_1 8 10 qc_2 0), (cAI g qc_2 80 (fun _ => 0))] X inlX5 rfl tyX5_ok nmX5 1 (by decide) rfl dX5_init_21 mw126 0 rfl rfl rfl (Nat.le_of_ble_eq_true rfl) rfl ?_
  refine k_aload_n X dX5_init_24 0 rfl ?_
  refine k_iconst (v := 0) X dX5_init_25 (by decide) ?_
  refine k_put (ci := 5) [(cO5_riiiiiiii h0 q_1 0 0 0 0 0 0 0 0), (cO8_iiri q_1 8 10 qc_2 0), (cAI g qc_2 80 (fun _ => 0))] X inlX5 rfl tyX5_ok nmX5 2 (by decide) rfl dX5_init_26 mw127 0 rfl rfl rfl (Nat.le_of_ble_eq_true rfl) rfl ?_
  refine k_aload_n X dX5_init_29 0 rfl ?_
  refine k_iconst (v := 0) X dX5_init_30 (by decide) ?_
  refine k_put (ci := 5) [(cO5_riiiiiiii h0 q_1 0 0 0 0 0 0 0 0), (cO8_iiri q_1 8 10 qc_2 0), (cAI g qc_2 80 (fun _ => 0))] X inlX5 rfl tyX5_ok nmX5 3 (by decide) rfl dX5_init_31 mw128 0 rfl rfl rfl (Nat.le_of_ble_eq_true rfl) rfl ?_
  refine k_aload_n X dX5_init_34 0 rfl ?_
  refine k_iconst (v := 0) X dX5_init_35 (by decide) ?_
  refine k_put (ci := 5) [(cO5_riiiiiiii h0 q_1 0 0 0 0 0 0 0 0), (cO8_iiri q_1 8 10 qc_2 0), (cAI g qc_2 80 (fun _ => 0))] X inlX5 rfl tyX5_ok nmX5 4 (by decide) rfl dX5_init_36 mw129 0 rfl (by decide) (by decide) (Nat.le_of_ble_eq_true rfl) rfl ?_
  refine k_aload_n X dX5_init_39 0 rfl ?_
  refine k_iconst (v := 0) X dX5_init_40 (by decide) ?_
  refine k_put (ci := 5) [(cO5_riiiiiiii h0 q_1 0 0 0 0 0 0 0 0), (cO8_iiri q_1 8 10 qc_2 0), (cAI g qc_2 80 (fun _ => 0))] X inlX5 rfl tyX5_ok nmX5 5 (by decide) rfl dX5_init_41 mw130 0 rfl rfl rfl (Nat.le_of_ble_eq_true rfl) rfl ?_
  refine k_aload_n X dX5_init_44 0 rfl ?_
  refine k_iconst (v := 0) X dX5_init_45 (by decide) ?_
  refine k_put (ci := 5) [(cO5_riiiiiiii h0 q_1 0 0 0 0 0 0 0 0), (cO8_iiri q_1 8 10 qc_2 0), (cAI g qc_2 80 (fun _ => 0))] X inlX5 rfl tyX5_ok nmX5 6 (by decide) rfl dX5_init_46 mw131 0 rfl rfl rfl (Nat.le_of_ble_eq_true rfl) rfl ?_
  refine k_aload_n X dX5_init_49 0 rfl ?_
  refine k_iconst (v := 0) X dX5_init_50 (by decide) ?_
  refine k_put (ci := 5) [(cO5_riiiiiiii h0 q_1 0 0 0 0 0 0 0 0), (cO8_iiri q_1 8 10 qc_2 0), (cAI g qc_2 80 (fun _ => 0))] X inlX5 rfl tyX5_ok nmX5 7 (by decide) rfl dX5_init_51 mw132 0 rfl rfl rfl (Nat.le_of_ble_eq_true rfl) rfl ?_
  refine k_aload_n X dX5_init_54 0 rfl ?_
  refine k_iconst (v := 0) X dX5_init_55 (by decide) ?_
  refine k_put (ci := 5) [(cO5_riiiiiiii h0 q_1 0 0 0 0 0 0 0 0), (cO8_iiri q_1 8 10 qc_2 0), (cAI g qc_2 80 (fun _ => 0))] X inlX5 rfl tyX5_ok nmX5 8 (by decide) rfl dX5_init_56 mw133 0 rfl rfl rfl (Nat.le_of_ble_eq_true rfl) rfl ?_
  exact k_vret X hr dX5_init_59 (Nat.le_of_ble_eq_true rfl) (Nat.le_of_ble_eq_true rfl) [0, 1, 2] (by decide) rfl rfl ⟨q_1, qc_2, rfl⟩

theorem dX0_init_0 : decode cX0_init 0 = .ok (.aload_n 0, 1) := dk_42 rfl
theorem dX0_init_1 : decode cX0_init 1 = .ok (.invokespecial 3, 3) := dk_183 rfl rfl rfl rfl
theorem dX0_init_4 : decode cX0_init 4 = .ok (.aload_n 0, 1) := dk_42 rfl
theorem dX0_init_5 : decode cX0_init 5 = .ok (.new 9, 3) := dk_187 rfl rfl rfl rfl
theorem dX0_init_8 : decode cX0_init 8 = .ok (.dup, 1) := dk_89 rfl
theorem dX0_init_9 : decode cX0_init 9 = .ok (.bipush 8, 2) := dk_16 rfl rfl (by decide)
theorem dX0_init_11 : decode cX0_init 11 = .ok (.iconst 1, 1) := dk_4 rfl
theorem dX0_init_12 : decode cX0_init 12 = .ok (.invokespecial 11, 3) := dk_183 rfl rfl rfl rfl
theorem dX0_init_15 : decode cX0_init 15 = .ok (.putfield 14, 3) := dk_181 rfl rfl rfl rfl
theorem dX0_init_18 : decode cX0_init 18 = .ok (.aload_n 0, 1) := dk_42 rfl
theorem dX0_init_19 : decode cX0_init 19 = .ok (.iconst 0, 1) := dk_3 rfl
theorem dX0_init_20 : decode cX0_init 20 = .ok (.putfield 20, 3) := dk_181 rfl rfl rfl rfl
theorem dX0_init_23 : decode cX0_init 23 = .ok (.return_, 1) := dk_177 rfl
set_option maxHeartbeats 4000000 in
set_option maxRecDepth 100000 in
theorem i_A (l : Launch) (g : Gx) (h0 : Nat) : cV l g yX0_init cX0_init 1 2 43 2 12 [.ref h0] [(cO0_ni h0 0)] (fun w => ∃ al alc, w = [(cO0_ri h0 al 0), (cO8_iiri al 8 1 alc 0), (cAI g alc 8 (fun _ => 0))]) := by
  refine cV.of (by decide) (Nat.le_of_ble_eq_true rfl) ?_
  intro p e s m args below meth c A X hr hi
  refine k_lveq [(0, .ref h0)] rfl ?_
  refine k_aload_n X dX0_init_0 0 rfl ?_
  refine k_objInit X dX0_init_1 mw137 mw11 mw12 (Nat.le_of_ble_eq_true rfl) (Nat.le_of_ble_eq_true rfl) ?_
  refine k_aload_n X dX0_init_4 0 rfl ?_
  refine k_new (ci := 8) (fs := [.int 0, .int 0, .null, .int 0]) X inlX8 rfl tyX8_ok dX0_init_5 mw138 mw63 mw64 (fun j hj => by rcases (show j = 0 ∨ j = 1 ∨ j = 2 ∨ j = 3 by omega) with rfl | rfl | rfl | rfl <;> rfl) (Nat.le_of_ble_eq_true rfl) (Nat.le_of_ble_eq_true rfl) (fun q_1 => ?_)
  refine k_ws [(cO0_ni h0 0), (cO8_iini q_1 0 0 0)] rfl ?_
  refine k_wide 1 4 (Nat.le_of_ble_eq_true rfl) (Nat.le_of_ble_eq_true rfl) ?_
  refine k_dup X dX0_init_8 rfl ?_
  refine k_bipush (v := 8) X dX0_init_9 (by decide) ?_
  refine k_iconst (v := 1) X dX0_init_11 (by decide) ?_
  refine k_callII (n := 2) (As := [.int 8, .int 1]) (st := [.ref q_1, .ref h0]) X [(cO8_iini q_1 0 0 0)] [(cO0_ni h0 0)] [1] [0] (i_T_8_1 l g q_1) dX0_init_12 mw141 mw97 mw64 mw98 rfl yk_yX8_init_2 rfl (Nat.le_of_ble_eq_true rfl) (Nat.le_of_ble_eq_true rfl) (Nat.le_of_ble_eq_true rfl) (Nat.le_of_ble_eq_true rfl) (Nat.le_of_ble_eq_true rfl) rfl rfl (by decide) rfl (by decide) (by decide) ?_
  rintro w ⟨qc_2, rfl⟩
  refine k_ws [(cO0_ni h0 0), (cO8_iiri q_1 8 1 qc_2 0), (cAI g qc_2 8 (fun _ => 0))] rfl ?_
  refine k_wide 2 12 (Nat.le_of_ble_eq_true rfl) (Nat.le_of_ble_eq_true rfl) ?_
  refine k_putF (ci := 0) [(cO0_ri h0 q_1 0), (cO8_iiri q_1 8 1 qc_2 0), (cAI g qc_2 8 (fun _ => 0))] X hi inlX0 rfl tyX0_ok nmX0 0 (by decide) rfl rfl dX0_init_15 mw139 0 rfl rfl rfl (Nat.le_of_ble_eq_true rfl) rfl ?_
  refine k_aload_n X dX0_init_18 0 rfl ?_
  refine k_iconst (v := 0) X dX0_init_19 (by decide) ?_
  refine k_put (ci := 0) [(cO0_ri h0 q_1 0), (cO8_iiri q_1 8 1 qc_2 0), (cAI g qc_2 8 (fun _ => 0))] X inlX0 rfl tyX0_ok nmX0 1 (by decide) rfl dX0_init_20 mw140 0 rfl rfl rfl (Nat.le_of_ble_eq_true rfl) rfl ?_
  exact k_vret X hr dX0_init_23 (Nat.le_of_ble_eq_true rfl) (Nat.le_of_ble_eq_true rfl) [0, 1, 2] (by decide) rfl rfl ⟨q_1, qc_2, rfl⟩

theorem dX6_init_0 : decode cX6_init 0 = .ok (.aload_n 0, 1) := dk_42 rfl
theorem dX6_init_1 : decode cX6_init 1 = .ok (.invokespecial 3, 3) := dk_183 rfl rfl rfl rfl
theorem dX6_init_4 : decode cX6_init 4 = .ok (.aload_n 0, 1) := dk_42 rfl
theorem dX6_init_5 : decode cX6_init 5 = .ok (.new 9, 3) := dk_187 rfl rfl rfl rfl
theorem dX6_init_8 : decode cX6_init 8 = .ok (.dup, 1) := dk_89 rfl
theorem dX6_init_9 : decode cX6_init 9 = .ok (.iconst 4, 1) := dk_7 rfl
theorem dX6_init_10 : decode cX6_init 10 = .ok (.iconst 1, 1) := dk_4 rfl
theorem dX6_init_11 : decode cX6_init 11 = .ok (.invokespecial 11, 3) := dk_183 rfl rfl rfl rfl
theorem dX6_init_14 : decode cX6_init 14 = .ok (.putfield 14, 3) := dk_181 rfl rfl rfl rfl
theorem dX6_init_17 : decode cX6_init 17 = .ok (.aload_n 0, 1) := dk_42 rfl
theorem dX6_init_18 : decode cX6_init 18 = .ok (.iconst 0, 1) := dk_3 rfl
theorem dX6_init_19 : decode cX6_init 19 = .ok (.putfield 20, 3) := dk_181 rfl rfl rfl rfl
theorem dX6_init_22 : decode cX6_init 22 = .ok (.aload_n 0, 1) := dk_42 rfl
theorem dX6_init_23 : decode cX6_init 23 = .ok (.iconst 0, 1) := dk_3 rfl
theorem dX6_init_24 : decode cX6_init 24 = .ok (.putfield 24, 3) := dk_181 rfl rfl rfl rfl
theorem dX6_init_27 : decode cX6_init 27 = .ok (.return_, 1) := dk_177 rfl
set_option maxHeartbeats 4000000 in
set_option maxRecDepth 100000 in
theorem i_R (l : Launch) (g : Gx) (h0 : Nat) : cV l g yX6_init cX6_init 1 2 43 2 8 [.ref h0] [(cO6_nii h0 0 0)] (fun w => ∃ rb rbc, w = [(cO6_rii h0 rb 0 0), (cO8_iiri rb 4 1 rbc 0), (cAI g rbc 4 (fun _ => 0))]) := by
  refine cV.of (by decide) (Nat.le_of_ble_eq_true rfl) ?_
  intro p e s m args below meth c A X hr hi
  refine k_lveq [(0, .ref h0)] rfl ?_
  refine k_aload_n X dX6_init_0 0 rfl ?_
  refine k_objInit X dX6_init_1 mw144 mw11 mw12 (Nat.le_of_ble_eq_true rfl) (Nat.le_of_ble_eq_true rfl) ?_
  refine k_aload_n X dX6_init_4 0 rfl ?_
  refine k_new (ci := 8) (fs := [.int 0, .int 0, .null, .int 0]) X inlX8 rfl tyX8_ok dX6_init_5 mw145 mw63 mw64 (fun j hj => by rcases (show j = 0 ∨ j = 1 ∨ j = 2 ∨ j = 3 by omega) with rfl | rfl | rfl | rfl <;> rfl) (Nat.le_of_ble_eq_true rfl) (Nat.le_of_ble_eq_true rfl) (fun q_1 => ?_)
  refine k_ws [(cO6_nii h0 0 0), (cO8_iini q_1 0 0 0)] rfl ?_
  refine k_wide 1 4 (Nat.le_of_ble_eq_true rfl) (Nat.le_of_ble_eq_true rfl) ?_
  refine k_dup X dX6_init_8 rfl ?_
  refine k_iconst (v := 4) X dX6_init_9 (by decide) ?_
  refine k_iconst (v := 1) X dX6_init_10 (by decide) ?_
  refine k_callII (n := 2) (As := [.int 4, .int 1]) (st := [.ref q_1, .ref h0]) X [(cO8_iini q_1 0 0 0)] [(cO6_nii h0 0 0)] [1] [0] (i_T_4_1 l g q_1) dX6_init_11 mw149 mw97 mw64 mw98 rfl yk_yX8_init_2 rfl (Nat.le_of_ble_eq_true rfl) (Nat.le_of_ble_eq_true rfl) (Nat.le_of_ble_eq_true rfl) (Nat.le_of_ble_eq_true rfl) (Nat.le_of_ble_eq_true rfl) rfl rfl (by decide) rfl (by decide) (by decide) ?_
  rintro w ⟨qc_2, rfl⟩
  refine k_ws [(cO6_nii h0 0 0), (cO8_iiri q_1 4 1 qc_2 0), (cAI g qc_2 4 (fun _ => 0))] rfl ?_
  refine k_wide 2 8 (Nat.le_of_ble_eq_true rfl) (Nat.le_of_ble_eq_true rfl) ?_
  refine k_putF (ci := 6) [(cO6_rii h0 q_1 0 0), (cO8_iiri q_1 4 1 qc_2 0), (cAI g qc_2 4 (fun _ => 0))] X hi inlX6 rfl tyX6_ok nmX6 0 (by decide) rfl rfl dX6_init_14 mw146 0 rfl rfl rfl (Nat.le_of_ble_eq_true rfl) rfl ?_
  refine k_aload_n X dX6_init_17 0 rfl ?_
  refine k_iconst (v := 0) X dX6_init_18 (by decide) ?_
  refine k_put (ci := 6) [(cO6_rii h0 q_1 0 0), (cO8_iiri q_1 4 1 qc_2 0), (cAI g qc_2 4 (fun _ => 0))] X inlX6 rfl tyX6_ok nmX6 1 (by decide) rfl dX6_init_19 mw147 0 rfl rfl rfl (Nat.le_of_ble_eq_true rfl) rfl ?_
  refine k_aload_n X dX6_init_22 0 rfl ?_
  refine k_iconst (v := 0) X dX6_init_23 (by decide) ?_
  refine k_put (ci := 6) [(cO6_rii h0 q_1 0 0), (cO8_iiri q_1 4 1 qc_2 0), (cAI g qc_2 4 (fun _ => 0))] X inlX6 rfl tyX6_ok nmX6 2 (by decide) rfl dX6_init_24 mw148 0 rfl rfl rfl (Nat.le_of_ble_eq_true rfl) rfl ?_
  exact k_vret X hr dX6_init_27 (Nat.le_of_ble_eq_true rfl) (Nat.le_of_ble_eq_true rfl) [0, 1, 2] (by decide) rfl rfl ⟨q_1, qc_2, rfl⟩

theorem dX1_init_0 : decode cX1_init 0 = .ok (.aload_n 0, 1) := dk_42 rfl
theorem dX1_init_1 : decode cX1_init 1 = .ok (.invokespecial 3, 3) := dk_183 rfl rfl rfl rfl
theorem dX1_init_4 : decode cX1_init 4 = .ok (.aload_n 0, 1) := dk_42 rfl
theorem dX1_init_5 : decode cX1_init 5 = .ok (.new 9, 3) := dk_187 rfl rfl rfl rfl
theorem dX1_init_8 : decode cX1_init 8 = .ok (.dup, 1) := dk_89 rfl
theorem dX1_init_9 : decode cX1_init 9 = .ok (.bipush 8, 2) := dk_16 rfl rfl (by decide)
theorem dX1_init_11 : decode cX1_init 11 = .ok (.iconst 1, 1) := dk_4 rfl
theorem dX1_init_12 : decode cX1_init 12 = .ok (.invokespecial 13, 3) := dk_183 rfl rfl rfl rfl
theorem dX1_init_15 : decode cX1_init 15 = .ok (.putfield 16, 3) := dk_181 rfl rfl rfl rfl
theorem dX1_init_18 : decode cX1_init 18 = .ok (.aload_n 0, 1) := dk_42 rfl
theorem dX1_init_19 : decode cX1_init 19 = .ok (.new 9, 3) := dk_187 rfl rfl rfl rfl
theorem dX1_init_22 : decode cX1_init 22 = .ok (.dup, 1) := dk_89 rfl
theorem dX1_init_23 : decode cX1_init 23 = .ok (.sipush 256, 3) := dk_17 rfl rfl rfl (by decide)
theorem dX1_init_26 : decode cX1_init 26 = .ok (.iconst 1, 1) := dk_4 rfl
theorem dX1_init_27 : decode cX1_init 27 = .ok (.invokespecial 13, 3) := dk_183 rfl rfl rfl rfl
theorem dX1_init_30 : decode cX1_init 30 = .ok (.putfield 20, 3) := dk_181 rfl rfl rfl rfl
theorem dX1_init_33 : decode cX1_init 33 = .ok (.aload_n 0, 1) := dk_42 rfl
theorem dX1_init_34 : decode cX1_init 34 = .ok (.bipush 8, 2) := dk_16 rfl rfl (by decide)
theorem dX1_init_36 : decode cX1_init 36 = .ok (.newarray .long, 2) := by decide +kernel
theorem dX1_init_38 : decode cX1_init 38 = .ok (.putfield 23, 3) := dk_181 rfl rfl rfl rfl
theorem dX1_init_41 : decode cX1_init 41 = .ok (.return_, 1) := dk_177 rfl
set_option maxHeartbeats 4000000 in
set_option maxRecDepth 100000 in
theorem i_E (l : Launch) (g : Gx) (h0 : Nat) : cV l g yX1_init cX1_init 1 2 43 5 280 [.ref h0] [(cO1_nnn h0 )] (fun w => ∃ eo ep eoc epc es, w = [(cO1_rrr h0 eo ep es), (cO8_iiri eo 8 1 eoc 0), (cAI g eoc 8 (fun _ => 0)), (cO8_iiri ep 256 1 epc 0), (cAI g epc 256 (fun _ => 0)), (cAJ g es 8 (fun _ => 0))]) := by
  refine cV.of (by decide) (Nat.le_of_ble_eq_true rfl) ?_
  intro p e s m args below meth c A X hr hi
  refine k_lveq [(0, .ref h0)] rfl ?_
  refine k_aload_n X dX1_init_0 0 rfl ?_
  refine k_objInit X dX1_init_1 mw152 mw11 mw12 (Nat.le_of_ble_eq_true rfl) (Nat.le_of_ble_eq_true rfl) ?_
  refine k_aload_n X dX1_init_4 0 rfl ?_
  refine k_new (ci := 8) (fs := [.int 0, .int 0, .null, .int 0]) X inlX8 rfl tyX8_ok dX1_init_5 mw153 mw63 mw64 (fun j hj => by rcases (show j = 0 ∨ j = 1 ∨ j = 2 ∨ j = 3 by omega) with rfl | rfl | rfl | rfl <;> rfl) (Nat.le_of_ble_eq_true rfl) (Nat.le_of_ble_eq_true rfl) (fun q_1 => ?_)
  refine k_ws [(cO1_nnn h0 ), (cO8_iini q_1 0 0 0)] rfl ?_
  refine k_wide 1 4 (Nat.le_of_ble_eq_true rfl) (Nat.le_of_ble_eq_true rfl) ?_
  refine k_dup X dX1_init_8 rfl ?_
  refine k_bipush (v := 8) X dX1_init_9 (by decide) ?_
  refine k_iconst (v := 1) X dX1_init_11 (by decide) ?_
  refine k_callII (n := 2) (As := [.int 8, .int 1]) (st := [.ref q_1, .ref h0]) X [(cO8_iini q_1 0 0 0)] [(cO1_nnn h0 )] [1] [0] (i_T_8_1 l g q_1) dX1_init_12 mw157 mw97 mw64 mw98 rfl yk_yX8_init_2 rfl (Nat.le_of_ble_eq_true rfl) (Nat.le_of_ble_eq_true rfl) (Nat.le_of_ble_eq_true rfl) (Nat.le_of_ble_eq_true rfl) (Nat.le_of_ble_eq_true rfl) rfl rfl (by decide) rfl (by decide) (by decide) ?_
  rintro w ⟨qc_2, rfl⟩
  refine k_ws [(cO1_nnn h0 ), (cO8_iiri q_1 8 1 qc_2 0), (cAI g qc_2 8 (fun _ => 0))] rfl ?_
  refine k_wide 2 12 (Nat.le_of_ble_eq_true rfl) (Nat.le_of_ble_eq_true rfl) ?_
  refine k_putF (ci := 1) [(cO1_rnn h0 q_1), (cO8_iiri q_1 8 1 qc_2 0), (cAI g qc_2 8 (fun _ => 0))] X hi inlX1 rfl tyX1_ok nmX1 0 (by decide) rfl rfl dX1_init_15 mw154 0 rfl rfl rfl (Nat.le_of_ble_eq_true rfl) rfl ?_
  refine k_aload_n X dX1_init_18 0 rfl ?_
  refine k_new (ci := 8) (fs := [.int 0, .int 0, .null, .int 0]) X inlX8 rfl tyX8_ok dX1_init_19 mw153 mw63 mw64 (fun j hj => by rcases (show j = 0 ∨ j = 1 ∨ j = 2 ∨ j = 3 by omega) with rfl | rfl | rfl | rfl <;> rfl) (Nat.le_of_ble_eq_true rfl) (Nat.le_of_ble_eq_true rfl) (fun q_3 => ?_)
  refine k_ws [(cO1_rnn h0 q_1), (cO8_iiri q_1 8 1 qc_2 0), (cAI g qc_2 8 (fun _ => 0)), (cO8_iini q_3 0 0 0)] rfl ?_
  refine k_wide 3 16 (Nat.le_of_ble_eq_true rfl) (Nat.le_of_ble_eq_true rfl) ?_
  refine k_dup X dX1_init_22 rfl ?_
  refine k_sipush (v := 256) X dX1_init_23 (by decide) ?_
  refine k_iconst (v := 1) X dX1_init_26 (by decide) ?_
  refine k_callII (n := 2) (As := [.int 256, .int 1]) (st := [.ref q_3, .ref h0]) X [(cO8_iini q_3 0 0 0)] [(cO1_rnn h0 q_1), (cO8_iiri q_1 8 1 qc_2 0), (cAI g qc_2 8 (fun _ => 0))] [3] [0, 1, 2] (i_T_256_1 l g q_3) dX1_init_27 mw157 mw97 mw64 mw98 rfl yk_yX8_init_2 rfl (Nat.le_of_ble_eq_true rfl) (Nat.le_of_ble_eq_true rfl) (Nat.le_of_ble_eq_true rfl) (Nat.le_of_ble_eq_true rfl) (Nat.le_of_ble_eq_true rfl) rfl rfl (by decide) rfl (by decide) (by decide) ?_
  rintro w ⟨qc_4, rfl⟩
  refine k_ws [(cO1_rnn h0 q_1), (cO8_iiri q_1 8 1 qc_2 0), (cAI g qc_2 8 (fun _ => 0)), (cO8_iiri q_3 256 1 qc_4 0), (cAI g qc_4 256 (fun _ => 0))] rfl ?_
  refine k_wide 4 272 (Nat.le_of_ble_eq_true rfl) (Nat.le_of_ble_eq_true rfl) ?_
  refine k_putF (ci := 1) [(cO1_rrn h0 q_1 q_3), (cO8_iiri q_1 8 1 qc_2 0), (cAI g qc_2 8 (fun _ => 0)), (cO8_iiri q_3 256 1 qc_4 0), (cAI g qc_4 256 (fun _ => 0))] X hi inlX1 rfl tyX1_ok nmX1 1 (by decide) rfl rfl dX1_init_30 mw155 0 rfl rfl rfl (Nat.le_of_ble_eq_true rfl) rfl ?_
  refine k_aload_n X dX1_init_33 0 rfl ?_
  refine k_bipush (v := 8) X dX1_init_34 (by decide) ?_
  refine k_newaJ 8 X dX1_init_36 mw6 (by decide) (by decide) (by decide) (Nat.le_of_ble_eq_true rfl) (Nat.le_of_ble_eq_true rfl) (fun q_5 => ?_)
  refine k_ws [(cO1_rrn h0 q_1 q_3), (cO8_iiri q_1 8 1 qc_2 0), (cAI g qc_2 8 (fun _ => 0)), (cO8_iiri q_3 256 1 qc_4 0), (cAI g qc_4 256 (fun _ => 0)), (cAJ g q_5 8 (fun _ => 0))] rfl ?_
  refine k_wide 5 280 (Nat.le_of_ble_eq_true rfl) (Nat.le_of_ble_eq_true rfl) ?_
  refine k_putF (ci := 1) [(cO1_rrr h0 q_1 q_3 q_5), (cO8_iiri q_1 8 1 qc_2 0), (cAI g qc_2 8 (fun _ => 0)), (cO8_iiri q_3 256 1 qc_4 0), (cAI g qc_4 256 (fun _ => 0)), (cAJ g q_5 8 (fun _ => 0))] X hi inlX1 rfl tyX1_ok nmX1 2 (by decide) rfl rfl dX1_init_38 mw156 0 rfl rfl rfl (Nat.le_of_ble_eq_true rfl) rfl ?_
  exact k_vret X hr dX1_init_41 (Nat.le_of_ble_eq_true rfl) (Nat.le_of_ble_eq_true rfl) [0, 1, 2, 3, 4, 5] (by decide) rfl rfl ⟨q_1, q_3, qc_2, qc_4, q_5, rfl⟩

theorem dX2_init_0 : decode cX2_init 0 = .ok (.aload_n 0, 1) := dk_42 rfl
theorem dX2_init_1 : decode cX2_init 1 = .ok (.invokespecial 1, 3) := dk_183 rfl rfl rfl rfl
theorem dX2_init_4 : decode cX2_init 4 = .ok (.aload_n 0, 1) := dk_42 rfl
theorem dX2_init_5 : decode cX2_init 5 = .ok (.lconst 0, 1) := dk_9 rfl
theorem dX2_init_6 : decode cX2_init 6 = .ok (.putfield 7, 3) := dk_181 rfl rfl rfl rfl
theorem dX2_init_9 : decode cX2_init 9 = .ok (.aload_n 0, 1) := dk_42 rfl
theorem dX2_init_10 : decode cX2_init 10 = .ok (.lconst 1, 1) := dk_10 rfl
theorem dX2_init_11 : decode cX2_init 11 = .ok (.putfield 13, 3) := dk_181 rfl rfl rfl rfl
theorem dX2_init_14 : decode cX2_init 14 = .ok (.return_, 1) := dk_177 rfl
set_option maxHeartbeats 4000000 in
set_option maxRecDepth 100000 in
theorem i_F (l : Launch) (g : Gx) (h0 : Nat) : cV l g yX2_init cX2_init 1 1 20 0 0 [.ref h0] [(cO2_ll h0 0 0)] (fun w => w = [(cO2_ll h0 0 1)]) := by
  refine cV.of (by decide) (Nat.le_of_ble_eq_true rfl) ?_
  intro p e s m args below meth c A X hr hi
  refine k_lveq [(0, .ref h0)] rfl ?_
  refine k_aload_n X dX2_init_0 0 rfl ?_
  refine k_objInit X dX2_init_1 mw160 mw11 mw12 (Nat.le_of_ble_eq_true rfl) (Nat.le_of_ble_eq_true rfl) ?_
  refine k_aload_n X dX2_init_4 0 rfl ?_
  refine k_lconst (v := 0) X dX2_init_5 (by decide) ?_
  refine k_put (ci := 2) [(cO2_ll h0 0 0)] X inlX2 rfl tyX2_ok nmX2 0 (by decide) rfl dX2_init_6 mw161 0 rfl rfl rfl (Nat.le_of_ble_eq_true rfl) rfl ?_
  refine k_aload_n X dX2_init_9 0 rfl ?_
  refine k_lconst (v := 1) X dX2_init_10 (by decide) ?_
  refine k_put (ci := 2) [(cO2_ll h0 0 1)] X inlX2 rfl tyX2_ok nmX2 1 (by decide) rfl dX2_init_11 mw162 0 rfl rfl rfl (Nat.le_of_ble_eq_true rfl) rfl ?_
  exact k_vret X hr dX2_init_14 (Nat.le_of_ble_eq_true rfl) (Nat.le_of_ble_eq_true rfl) [0] (by decide) rfl rfl rfl

theorem dX9_init_0 : decode cX9_init 0 = .ok (.aload_n 0, 1) := dk_42 rfl
theorem dX9_init_1 : decode cX9_init 1 = .ok (.invokespecial 3, 3) := dk_183 rfl rfl rfl rfl
theorem dX9_init_4 : decode cX9_init 4 = .ok (.aload_n 0, 1) := dk_42 rfl
theorem dX9_init_5 : decode cX9_init 5 = .ok (.iconst 0, 1) := dk_3 rfl
theorem dX9_init_6 : decode cX9_init 6 = .ok (.putfield 9, 3) := dk_181 rfl rfl rfl rfl
theorem dX9_init_9 : decode cX9_init 9 = .ok (.aload_n 0, 1) := dk_42 rfl
theorem dX9_init_10 : decode cX9_init 10 = .ok (.new 15, 3) := dk_187 rfl rfl rfl rfl
theorem dX9_init_13 : decode cX9_init 13 = .ok (.dup, 1) := dk_89 rfl
theorem dX9_init_14 : decode cX9_init 14 = .ok (.invokespecial 17, 3) := dk_183 rfl rfl rfl rfl
theorem dX9_init_17 : decode cX9_init 17 = .ok (.putfield 18, 3) := dk_181 rfl rfl rfl rfl
theorem dX9_init_20 : decode cX9_init 20 = .ok (.aload_n 0, 1) := dk_42 rfl
theorem dX9_init_21 : decode cX9_init 21 = .ok (.iconst 0, 1) := dk_3 rfl
theorem dX9_init_22 : decode cX9_init 22 = .ok (.putfield 22, 3) := dk_181 rfl rfl rfl rfl
theorem dX9_init_25 : decode cX9_init 25 = .ok (.aload_n 0, 1) := dk_42 rfl
theorem dX9_init_26 : decode cX9_init 26 = .ok (.iconst 0, 1) := dk_3 rfl
theorem dX9_init_27 : decode cX9_init 27 = .ok (.putfield 25, 3) := dk_181 rfl rfl rfl rfl
theorem dX9_init_30 : decode cX9_init 30 = .ok (.aload_n 0, 1) := dk_42 rfl
theorem dX9_init_31 : decode cX9_init 31 = .ok (.sipush 900, 3) := dk_17 rfl rfl rfl (by decide)
theorem dX9_init_34 : decode cX9_init 34 = .ok (.newarray .byte, 2) := by decide +kernel
theorem dX9_init_36 : decode cX9_init 36 = .ok (.putfield 28, 3) := dk_181 rfl rfl rfl rfl
theorem dX9_init_39 : decode cX9_init 39 = .ok (.aload_n 0, 1) := dk_42 rfl
theorem dX9_init_40 : decode cX9_init 40 = .ok (.iconst 0, 1) := dk_3 rfl
theorem dX9_init_41 : decode cX9_init 41 = .ok (.putfield 32, 3) := dk_181 rfl rfl rfl rfl
theorem dX9_init_44 : decode cX9_init 44 = .ok (.aload_n 0, 1) := dk_42 rfl
theorem dX9_init_45 : decode cX9_init 45 = .ok (.bipush 16, 2) := dk_16 rfl rfl (by decide)
theorem dX9_init_47 : decode cX9_init 47 = .ok (.newarray .long, 2) := by decide +kernel
theorem dX9_init_49 : decode cX9_init 49 = .ok (.putfield 35, 3) := dk_181 rfl rfl rfl rfl
theorem dX9_init_52 : decode cX9_init 52 = .ok (.aload_n 0, 1) := dk_42 rfl
theorem dX9_init_53 : decode cX9_init 53 = .ok (.new 39, 3) := dk_187 rfl rfl rfl rfl
theorem dX9_init_56 : decode cX9_init 56 = .ok (.dup, 1) := dk_89 rfl
theorem dX9_init_57 : decode cX9_init 57 = .ok (.bipush 16, 2) := dk_16 rfl rfl (by decide)
theorem dX9_init_59 : decode cX9_init 59 = .ok (.iconst 2, 1) := dk_5 rfl
theorem dX9_init_60 : decode cX9_init 60 = .ok (.invokespecial 41, 3) := dk_183 rfl rfl rfl rfl
theorem dX9_init_63 : decode cX9_init 63 = .ok (.putfield 44, 3) := dk_181 rfl rfl rfl rfl
theorem dX9_init_66 : decode cX9_init 66 = .ok (.aload_n 0, 1) := dk_42 rfl
theorem dX9_init_67 : decode cX9_init 67 = .ok (.iconst 0, 1) := dk_3 rfl
theorem dX9_init_68 : decode cX9_init 68 = .ok (.putfield 48, 3) := dk_181 rfl rfl rfl rfl
theorem dX9_init_71 : decode cX9_init 71 = .ok (.aload_n 0, 1) := dk_42 rfl
theorem dX9_init_72 : decode cX9_init 72 = .ok (.iconst 0, 1) := dk_3 rfl
theorem dX9_init_73 : decode cX9_init 73 = .ok (.putfield 51, 3) := dk_181 rfl rfl rfl rfl
theorem dX9_init_76 : decode cX9_init 76 = .ok (.aload_n 0, 1) := dk_42 rfl
theorem dX9_init_77 : decode cX9_init 77 = .ok (.iconst 0, 1) := dk_3 rfl
theorem dX9_init_78 : decode cX9_init 78 = .ok (.putfield 54, 3) := dk_181 rfl rfl rfl rfl
theorem dX9_init_81 : decode cX9_init 81 = .ok (.aload_n 0, 1) := dk_42 rfl
theorem dX9_init_82 : decode cX9_init 82 = .ok (.iconst 0, 1) := dk_3 rfl
theorem dX9_init_83 : decode cX9_init 83 = .ok (.putfield 57, 3) := dk_181 rfl rfl rfl rfl
theorem dX9_init_86 : decode cX9_init 86 = .ok (.aload_n 0, 1) := dk_42 rfl
theorem dX9_init_87 : decode cX9_init 87 = .ok (.lconst 0, 1) := dk_9 rfl
theorem dX9_init_88 : decode cX9_init 88 = .ok (.putfield 60, 3) := dk_181 rfl rfl rfl rfl
theorem dX9_init_91 : decode cX9_init 91 = .ok (.aload_n 0, 1) := dk_42 rfl
theorem dX9_init_92 : decode cX9_init 92 = .ok (.iconst 0, 1) := dk_3 rfl
theorem dX9_init_93 : decode cX9_init 93 = .ok (.putfield 64, 3) := dk_181 rfl rfl rfl rfl
theorem dX9_init_96 : decode cX9_init 96 = .ok (.aload_n 0, 1) := dk_42 rfl
theorem dX9_init_97 : decode cX9_init 97 = .ok (.iconst 0, 1) := by decide +kernel
theorem dX9_init_98 : decode cX9_init 98 = .ok (.putfield 67, 3) := by decide +kernel
theorem dX9_init_101 : decode cX9_init 101 = .ok (.return_, 1) := by decide +kernel
set_option maxHeartbeats 4000000 in
set_option maxRecDepth 100000 in
theorem i_X (l : Launch) (g : Gx) (h0 : Nat) : cV l g yX9_init cX9_init 1 4 83 28 1175 [.ref h0] [(cO9_i1n1i2n1i1n2i4l1i2 h0 0 0 0 0 0 0 0 0 0 0 0)] (fun w => ∃ th tp nm nd ndc qs qhn qht qhj qhm qhb qhs qhc qhnc qhtc qhjc qhmc qhbc qhsc qhcc qr qm qw qp qrc qmc qwc qpc, w = [(cO9_i1r1i2r1i1r2i4l1i2 h0 0 th 0 0 tp 0 nm nd 0 0 0 0 0 0 0), (cAB g tp 900 (fun _ => 0)), (cAJ g nm 16 (fun _ => 0)), (cO8_iiri nd 16 2 ndc 0), (cAI g ndc 32 (fun _ => 0)), (cO3_rrrrrrrr th qs qhn qht qhj qhm qhb qhs qhc), (cO7_rrrrii qs qr qm qw qp 0 0), (cO8_iiri qr 8 3 qrc 0), (cAI g qrc 24 (fun _ => 0)), (cO8_iiri qm 12 3 qmc 0), (cAI g qmc 36 (fun _ => 0)), (cO8_iiri qw 6 3 qwc 0), (cAI g qwc 18 (fun _ => 0)), (cO8_iiri qp 8 2 qpc 0), (cAI g qpc 16 (fun _ => 0)), (cO8_iiri qhn 1 6 qhnc 0), (cAI g qhnc 6 (fun _ => 0)), (cO8_iiri qht 4 1 qhtc 0), (cAI g qhtc 4 (fun _ => 0)), (cO8_iiri qhj 8 2 qhjc 0), (cAI g qhjc 16 (fun _ => 0)), (cO8_iiri qhm 4 3 qhmc 0), (cAI g qhmc 12 (fun _ => 0)), (cO8_iiri qhb 1 3 qhbc 0), (cAI g qhbc 3 (fun _ => 0)), (cO8_iiri qhs 6 3 qhsc 0), (cAI g qhsc 18 (fun _ => 0)), (cO8_iiri qhc 6 2 qhcc 0), (cAI g qhcc 12 (fun _ => 0))]) := by
  refine cV.of (by decide) (Nat.le_of_ble_eq_true rfl) ?_
  intro p e s m args below meth c A X hr hi
  refine k_lveq [(0, .ref h0)] rfl ?_
  refine k_aload_n X dX9_init_0 0 rfl ?_
  refine k_objInit X dX9_init_1 mw52 mw11 mw12 (Nat.le_of_ble_eq_true rfl) (Nat.le_of_ble_eq_true rfl) ?_
  refine k_aload_n X dX9_init_4 0 rfl ?_
  refine k_iconst (v := 0) X dX9_init_5 (by decide) ?_
  refine k_put (ci := 9) [(cO9_i1n1i2n1i1n2i4l1i2 h0 0 0 0 0 0 0 0 0 0 0 0)] X inlX9 rfl tyX9_ok nmX9 0 (by decide) rfl dX9_init_6 mw53 0 rfl rfl rfl (Nat.le_of_ble_eq_true rfl) rfl ?_
  refine k_aload_n X dX9_init_9 0 rfl ?_
  refine k_new (ci := 3) (fs := [.null, .null, .null, .null, .null, .null, .null, .null]) X inlX3 rfl tyX3_ok dX9_init_10 mw54 mw18 mw19 (fun j hj => by rcases (show j = 0 ∨ j = 1 ∨ j = 2 ∨ j = 3 ∨ j = 4 ∨ j = 5 ∨ j = 6 ∨ j = 7 by omega) with rfl | rfl | rfl | rfl | rfl | rfl | rfl | rfl <;> rfl) (Nat.le_of_ble_eq_true rfl) (Nat.le_of_ble_eq_true rfl) (fun q_1 => ?_)
  refine k_ws [(cO9_i1n1i2n1i1n2i4l1i2 h0 0 0 0 0 0 0 0 0 0 0 0), (cO3_nnnnnnnn q_1 )] rfl ?_
  refine k_wide 1 8 (Nat.le_of_ble_eq_true rfl) (Nat.le_of_ble_eq_true rfl) ?_
  refine k_dup X dX9_init_13 rfl ?_
  refine k_callIN (n := 0) (host := RX10) (As := []) (st := [.ref q_1, .ref h0]) X [(cO3_nnnnnnnn q_1 )] [(cO9_i1n1i2n1i1n2i4l1i2 h0 0 0 0 0 0 0 0 0 0 0 0)] [1] [0] (i_H l g q_1) dX9_init_14 (by decide +kernel) mw73 mw19 mw74 rfl yk_yX3_init_0 rfl (Nat.le_of_ble_eq_true rfl) (Nat.le_of_ble_eq_true rfl) (Nat.le_of_ble_eq_true rfl) (Nat.le_of_ble_eq_true rfl) (Nat.le_of_ble_eq_true rfl) rfl rfl (by decide) rfl (by decide) (by decide) ?_
  intro w zq
  refine exL23 zq ?_
  clear zq
  intro xs_2 xhn_3 xht_4 xhj_5 xhm_6 xhb_7 xhs_8 xhc_9 xhnc_10 xhtc_11 xhjc_12 xhmc_13 xhbc_14 xhsc_15 xhcc_16 xr_17 xm_18 xw_19 xp_20 xrc_21 xmc_22 xwc_23 xpc_24 zq
  subst zq
  refine k_ws [(cO9_i1n1i2n1i1n2i4l1i2 h0 0 0 0 0 0 0 0 0 0 0 0), (cO3_rrrrrrrr q_1 xs_2 xhn_3 xht_4 xhj_5 xhm_6 xhb_7 xhs_8 xhc_9), (cO7_rrrrii xs_2 xr_17 xm_18 xw_19 xp_20 0 0), (cO8_iiri xr_17 8 3 xrc_21 0), (cAI g xrc_21 24 (fun _ => 0)), (cO8_iiri xm_18 12 3 xmc_22 0), (cAI g xmc_22 36 (fun _ => 0)), (cO8_iiri xw_19 6 3 xwc_23 0), (cAI g xwc_23 18 (fun _ => 0)), (cO8_iiri xp_20 8 2 xpc_24 0), (cAI g xpc_24 16 (fun _ => 0)), (cO8_iiri xhn_3 1 6 xhnc_10 0), (cAI g xhnc_10 6 (fun _ => 0)), (cO8_iiri xht_4 4 1 xhtc_11 0), (cAI g xhtc_11 4 (fun _ => 0)), (cO8_iiri xhj_5 8 2 xhjc_12 0), (cAI g xhjc_12 16 (fun _ => 0)), (cO8_iiri xhm_6 4 3 xhmc_13 0), (cAI g xhmc_13 12 (fun _ => 0)), (cO8_iiri xhb_7 1 3 xhbc_14 0), (cAI g xhbc_14 3 (fun _ => 0)), (cO8_iiri xhs_8 6 3 xhsc_15 0), (cAI g xhsc_15 18 (fun _ => 0)), (cO8_iiri xhc_9 6 2 xhcc_16 0), (cAI g xhcc_16 12 (fun _ => 0))] rfl ?_
  refine k_wide 24 223 (Nat.le_of_ble_eq_true rfl) (Nat.le_of_ble_eq_true rfl) ?_
  refine k_putF (ci := 9) [(cO9_i1r1i2n1i1n2i4l1i2 h0 0 q_1 0 0 0 0 0 0 0 0 0 0), (cO3_rrrrrrrr q_1 xs_2 xhn_3 xht_4 xhj_5 xhm_6 xhb_7 xhs_8 xhc_9), (cO7_rrrrii xs_2 xr_17 xm_18 xw_19 xp_20 0 0), (cO8_iiri xr_17 8 3 xrc_21 0), (cAI g xrc_21 24 (fun _ => 0)), (cO8_iiri xm_18 12 3 xmc_22 0), (cAI g xmc_22 36 (fun _ => 0)), (cO8_iiri xw_19 6 3 xwc_23 0), (cAI g xwc_23 18 (fun _ => 0)), (cO8_iiri xp_20 8 2 xpc_24 0), (cAI g xpc_24 16 (fun _ => 0)), (cO8_iiri xhn_3 1 6 xhnc_10 0), (cAI g xhnc_10 6 (fun _ => 0)), (cO8_iiri xht_4 4 1 xhtc_11 0), (cAI g xhtc_11 4 (fun _ => 0)), (cO8_iiri xhj_5 8 2 xhjc_12 0), (cAI g xhjc_12 16 (fun _ => 0)), (cO8_iiri xhm_6 4 3 xhmc_13 0), (cAI g xhmc_13 12 (fun _ => 0)), (cO8_iiri xhb_7 1 3 xhbc_14 0), (cAI g xhbc_14 3 (fun _ => 0)), (cO8_iiri xhs_8 6 3 xhsc_15 0), (cAI g xhsc_15 18 (fun _ => 0)), (cO8_iiri xhc_9 6 2 xhcc_16 0), (cAI g xhcc_16 12 (fun _ => 0))] X hi inlX9 rfl tyX9_ok nmX9 1 (by decide) rfl rfl dX9_init_17 mw55 0 rfl rfl rfl (Nat.le_of_ble_eq_true rfl) rfl ?_
  refine k_aload_n X dX9_init_20 0 rfl ?_
  refine k_iconst (v := 0) X dX9_init_21 (by decide) ?_
  refine k_put (ci := 9) [(cO9_i1r1i2n1i1n2i4l1i2 h0 0 q_1 0 0 0 0 0 0 0 0 0 0), (cO3_rrrrrrrr q_1 xs_2 xhn_3 xht_4 xhj_5 xhm_6 xhb_7 xhs_8 xhc_9), (cO7_rrrrii xs_2 xr_17 xm_18 xw_19 xp_20 0 0), (cO8_iiri xr_17 8 3 xrc_21 0), (cAI g xrc_21 24 (fun _ => 0)), (cO8_iiri xm_18 12 3 xmc_22 0), (cAI g xmc_22 36 (fun _ => 0)), (cO8_iiri xw_19 6 3 xwc_23 0), (cAI g xwc_23 18 (fun _ => 0)), (cO8_iiri xp_20 8 2 xpc_24 0), (cAI g xpc_24 16 (fun _ => 0)), (cO8_iiri xhn_3 1 6 xhnc_10 0), (cAI g xhnc_10 6 (fun _ => 0)), (cO8_iiri xht_4 4 1 xhtc_11 0), (cAI g xhtc_11 4 (fun _ => 0)), (cO8_iiri xhj_5 8 2 xhjc_12 0), (cAI g xhjc_12 16 (fun _ => 0)), (cO8_iiri xhm_6 4 3 xhmc_13 0), (cAI g xhmc_13 12 (fun _ => 0)), (cO8_iiri xhb_7 1 3 xhbc_14 0), (cAI g xhbc_14 3 (fun _ => 0)), (cO8_iiri xhs_8 6 3 xhsc_15 0), (cAI g xhsc_15 18 (fun _ => 0)), (cO8_iiri xhc_9 6 2 xhcc_16 0), (cAI g xhcc_16 12 (fun _ => 0))] X inlX9 rfl tyX9_ok nmX9 2 (by decide) rfl dX9_init_22 mw56 0 rfl rfl rfl (Nat.le_of_ble_eq_true rfl) rfl ?_
  refine k_aload_n X dX9_init_25 0 rfl ?_
  refine k_iconst (v := 0) X dX9_init_26 (by decide) ?_
  refine k_put (ci := 9) [(cO9_i1r1i2n1i1n2i4l1i2 h0 0 q_1 0 0 0 0 0 0 0 0 0 0), (cO3_rrrrrrrr q_1 xs_2 xhn_3 xht_4 xhj_5 xhm_6 xhb_7 xhs_8 xhc_9), (cO7_rrrrii xs_2 xr_17 xm_18 xw_19 xp_20 0 0), (cO8_iiri xr_17 8 3 xrc_21 0), (cAI g xrc_21 24 (fun _ => 0)), (cO8_iiri xm_18 12 3 xmc_22 0), (cAI g xmc_22 36 (fun _ => 0)), (cO8_iiri xw_19 6 3 xwc_23 0), (cAI g xwc_23 18 (fun _ => 0)), (cO8_iiri xp_20 8 2 xpc_24 0), (cAI g xpc_24 16 (fun _ => 0)), (cO8_iiri xhn_3 1 6 xhnc_10 0), (cAI g xhnc_10 6 (fun _ => 0)), (cO8_iiri xht_4 4 1 xhtc_11 0), (cAI g xhtc_11 4 (fun _ => 0)), (cO8_iiri xhj_5 8 2 xhjc_12 0), (cAI g xhjc_12 16 (fun _ => 0)), (cO8_iiri xhm_6 4 3 xhmc_13 0), (cAI g xhmc_13 12 (fun _ => 0)), (cO8_iiri xhb_7 1 3 xhbc_14 0), (cAI g xhbc_14 3 (fun _ => 0)), (cO8_iiri xhs_8 6 3 xhsc_15 0), (cAI g xhsc_15 18 (fun _ => 0)), (cO8_iiri xhc_9 6 2 xhcc_16 0), (cAI g xhcc_16 12 (fun _ => 0))] X inlX9 rfl tyX9_ok nmX9 3 (by decide) rfl dX9_init_27 mw57 0 rfl rfl rfl (Nat.le_of_ble_eq_true rfl) rfl ?_
  refine k_aload_n X dX9_init_30 0 rfl ?_
  refine k_sipush (v := 900) X dX9_init_31 (by decide) ?_
  refine k_newaB 900 X dX9_init_34 mw58 (by decide) (by decide) (by decide) (Nat.le_of_ble_eq_true rfl) (Nat.le_of_ble_eq_true rfl) (fun q_25 => ?_)
  refine k_ws [(cO9_i1r1i2n1i1n2i4l1i2 h0 0 q_1 0 0 0 0 0 0 0 0 0 0), (cO3_rrrrrrrr q_1 xs_2 xhn_3 xht_4 xhj_5 xhm_6 xhb_7 xhs_8 xhc_9), (cO7_rrrrii xs_2 xr_17 xm_18 xw_19 xp_20 0 0), (cO8_iiri xr_17 8 3 xrc_21 0), (cAI g xrc_21 24 (fun _ => 0)), (cO8_iiri xm_18 12 3 xmc_22 0), (cAI g xmc_22 36 (fun _ => 0)), (cO8_iiri xw_19 6 3 xwc_23 0), (cAI g xwc_23 18 (fun _ => 0)), (cO8_iiri xp_20 8 2 xpc_24 0), (cAI g xpc_24 16 (fun _ => 0)), (cO8_iiri xhn_3 1 6 xhnc_10 0), (cAI g xhnc_10 6 (fun _ => 0)), (cO8_iiri xht_4 4 1 xhtc_11 0), (cAI g xhtc_11 4 (fun _ => 0)), (cO8_iiri xhj_5 8 2 xhjc_12 0), (cAI g xhjc_12 16 (fun _ => 0)), (cO8_iiri xhm_6 4 3 xhmc_13 0), (cAI g xhmc_13 12 (fun _ => 0)), (cO8_iiri xhb_7 1 3 xhbc_14 0), (cAI g xhbc_14 3 (fun _ => 0)), (cO8_iiri xhs_8 6 3 xhsc_15 0), (cAI g xhsc_15 18 (fun _ => 0)), (cO8_iiri xhc_9 6 2 xhcc_16 0), (cAI g xhcc_16 12 (fun _ => 0)), (cAB g q_25 900 (fun _ => 0))] rfl ?_
  refine k_wide 25 1123 (Nat.le_of_ble_eq_true rfl) (Nat.le_of_ble_eq_true rfl) ?_
  refine k_putF (ci := 9) [(cO9_i1r1i2r1i1n2i4l1i2 h0 0 q_1 0 0 q_25 0 0 0 0 0 0 0 0), (cO3_rrrrrrrr q_1 xs_2 xhn_3 xht_4 xhj_5 xhm_6 xhb_7 xhs_8 xhc_9), (cO7_rrrrii xs_2 xr_17 xm_18 xw_19 xp_20 0 0), (cO8_iiri xr_17 8 3 xrc_21 0), (cAI g xrc_21 24 (fun _ => 0)), (cO8_iiri xm_18 12 3 xmc_22 0), (cAI g xmc_22 36 (fun _ => 0)), (cO8_iiri xw_19 6 3 xwc_23 0), (cAI g xwc_23 18 (fun _ => 0)), (cO8_iiri xp_20 8 2 xpc_24 0), (cAI g xpc_24 16 (fun _ => 0)), (cO8_iiri xhn_3 1 6 xhnc_10 0), (cAI g xhnc_10 6 (fun _ => 0)), (cO8_iiri xht_4 4 1 xhtc_11 0), (cAI g xhtc_11 4 (fun _ => 0)), (cO8_iiri xhj_5 8 2 xhjc_12 0), (cAI g xhjc_12 16 (fun _ => 0)), (cO8_iiri xhm_6 4 3 xhmc_13 0), (cAI g xhmc_13 12 (fun _ => 0)), (cO8_iiri xhb_7 1 3 xhbc_14 0), (cAI g xhbc_14 3 (fun _ => 0)), (cO8_iiri xhs_8 6 3 xhsc_15 0), (cAI g xhsc_15 18 (fun _ => 0)), (cO8_iiri xhc_9 6 2 xhcc_16 0), (cAI g xhcc_16 12 (fun _ => 0)), (cAB g q_25 900 (fun _ => 0))] X hi inlX9 rfl tyX9_ok nmX9 4 (by decide) rfl rfl dX9_init_36 mw59 0 rfl rfl rfl (Nat.le_of_ble_eq_true rfl) rfl ?_
  refine k_aload_n X dX9_init_39 0 rfl ?_
  refine k_iconst (v := 0) X dX9_init_40 (by decide) ?_
  refine k_put (ci := 9) [(cO9_i1r1i2r1i1n2i4l1i2 h0 0 q_1 0 0 q_25 0 0 0 0 0 0 0 0), (cO3_rrrrrrrr q_1 xs_2 xhn_3 xht_4 xhj_5 xhm_6 xhb_7 xhs_8 xhc_9), (cO7_rrrrii xs_2 xr_17 xm_18 xw_19 xp_20 0 0), (cO8_iiri xr_17 8 3 xrc_21 0), (cAI g xrc_21 24 (fun _ => 0)), (cO8_iiri xm_18 12 3 xmc_22 0), (cAI g xmc_22 36 (fun _ => 0)), (cO8_iiri xw_19 6 3 xwc_23 0), (cAI g xwc_23 18 (fun _ => 0)), (cO8_iiri xp_20 8 2 xpc_24 0), (cAI g xpc_24 16 (fun _ => 0)), (cO8_iiri xhn_3 1 6 xhnc_10 0), (cAI g xhnc_10 6 (fun _ => 0)), (cO8_iiri xht_4 4 1 xhtc_11 0), (cAI g xhtc_11 4 (fun _ => 0)), (cO8_iiri xhj_5 8 2 xhjc_12 0), (cAI g xhjc_12 16 (fun _ => 0)), (cO8_iiri xhm_6 4 3 xhmc_13 0), (cAI g xhmc_13 12 (fun _ => 0)), (cO8_iiri xhb_7 1 3 xhbc_14 0), (cAI g xhbc_14 3 (fun _ => 0)), (cO8_iiri xhs_8 6 3 xhsc_15 0), (cAI g xhsc_15 18 (fun _ => 0)), (cO8_iiri xhc_9 6 2 xhcc_16 0), (cAI g xhcc_16 12 (fun _ => 0)), (cAB g q_25 900 (fun _ => 0))] X inlX9 rfl tyX9_ok nmX9 5 (by decide) rfl dX9_init_41 mw60 0 rfl rfl rfl (Nat.le_of_ble_eq_true rfl) rfl ?_
  refine k_aload_n X dX9_init_44 0 rfl ?_
  refine k_bipush (v := 16) X dX9_init_45 (by decide) ?_
  refine k_newaJ 16 X dX9_init_47 mw6 (by decide) (by decide) (by decide) (Nat.le_of_ble_eq_true rfl) (Nat.le_of_ble_eq_true rfl) (fun q_26 => ?_)
  refine k_ws [(cO9_i1r1i2r1i1n2i4l1i2 h0 0 q_1 0 0 q_25 0 0 0 0 0 0 0 0), (cO3_rrrrrrrr q_1 xs_2 xhn_3 xht_4 xhj_5 xhm_6 xhb_7 xhs_8 xhc_9), (cO7_rrrrii xs_2 xr_17 xm_18 xw_19 xp_20 0 0), (cO8_iiri xr_17 8 3 xrc_21 0), (cAI g xrc_21 24 (fun _ => 0)), (cO8_iiri xm_18 12 3 xmc_22 0), (cAI g xmc_22 36 (fun _ => 0)), (cO8_iiri xw_19 6 3 xwc_23 0), (cAI g xwc_23 18 (fun _ => 0)), (cO8_iiri xp_20 8 2 xpc_24 0), (cAI g xpc_24 16 (fun _ => 0)), (cO8_iiri xhn_3 1 6 xhnc_10 0), (cAI g xhnc_10 6 (fun _ => 0)), (cO8_iiri xht_4 4 1 xhtc_11 0), (cAI g xhtc_11 4 (fun _ => 0)), (cO8_iiri xhj_5 8 2 xhjc_12 0), (cAI g xhjc_12 16 (fun _ => 0)), (cO8_iiri xhm_6 4 3 xhmc_13 0), (cAI g xhmc_13 12 (fun _ => 0)), (cO8_iiri xhb_7 1 3 xhbc_14 0), (cAI g xhbc_14 3 (fun _ => 0)), (cO8_iiri xhs_8 6 3 xhsc_15 0), (cAI g xhsc_15 18 (fun _ => 0)), (cO8_iiri xhc_9 6 2 xhcc_16 0), (cAI g xhcc_16 12 (fun _ => 0)), (cAB g q_25 900 (fun _ => 0)), (cAJ g q_26 16 (fun _ => 0))] rfl ?_
  refine k_wide 26 1139 (Nat.le_of_ble_eq_true rfl) (Nat.le_of_ble_eq_true rfl) ?_
  refine k_putF (ci := 9) [(cO9_i1r1i2r1i1r1n1i4l1i2 h0 0 q_1 0 0 q_25 0 q_26 0 0 0 0 0 0 0), (cO3_rrrrrrrr q_1 xs_2 xhn_3 xht_4 xhj_5 xhm_6 xhb_7 xhs_8 xhc_9), (cO7_rrrrii xs_2 xr_17 xm_18 xw_19 xp_20 0 0), (cO8_iiri xr_17 8 3 xrc_21 0), (cAI g xrc_21 24 (fun _ => 0)), (cO8_iiri xm_18 12 3 xmc_22 0), (cAI g xmc_22 36 (fun _ => 0)), (cO8_iiri xw_19 6 3 xwc_23 0), (cAI g xwc_23 18 (fun _ => 0)), (cO8_iiri xp_20 8 2 xpc_24 0), (cAI g xpc_24 16 (fun _ => 0)), (cO8_iiri xhn_3 1 6 xhnc_10 0), (cAI g xhnc_10 6 (fun _ => 0)), (cO8_iiri xht_4 4 1 xhtc_11 0), (cAI g xhtc_11 4 (fun _ => 0)), (cO8_iiri xhj_5 8 2 xhjc_12 0), (cAI g xhjc_12 16 (fun _ => 0)), (cO8_iiri xhm_6 4 3 xhmc_13 0), (cAI g xhmc_13 12 (fun _ => 0)), (cO8_iiri xhb_7 1 3 xhbc_14 0), (cAI g xhbc_14 3 (fun _ => 0)), (cO8_iiri xhs_8 6 3 xhsc_15 0), (cAI g xhsc_15 18 (fun _ => 0)), (cO8_iiri xhc_9 6 2 xhcc_16 0), (cAI g xhcc_16 12 (fun _ => 0)), (cAB g q_25 900 (fun _ => 0)), (cAJ g q_26 16 (fun _ => 0))] X hi inlX9 rfl tyX9_ok nmX9 6 (by decide) rfl rfl dX9_init_49 mw61 0 rfl rfl rfl (Nat.le_of_ble_eq_true rfl) rfl ?_
  refine k_aload_n X dX9_init_52 0 rfl ?_
  refine k_new (ci := 8) (fs := [.int 0, .int 0, .null, .int 0]) X inlX8 rfl tyX8_ok dX9_init_53 mw62 mw63 mw64 (fun j hj => by rcases (show j = 0 ∨ j = 1 ∨ j = 2 ∨ j = 3 by omega) with rfl | rfl | rfl | rfl <;> rfl) (Nat.le_of_ble_eq_true rfl) (Nat.le_of_ble_eq_true rfl) (fun q_27 => ?_)
  refine k_ws [(cO9_i1r1i2r1i1r1n1i4l1i2 h0 0 q_1 0 0 q_25 0 q_26 0 0 0 0 0 0 0), (cO3_rrrrrrrr q_1 xs_2 xhn_3 xht_4 xhj_5 xhm_6 xhb_7 xhs_8 xhc_9), (cO7_rrrrii xs_2 xr_17 xm_18 xw_19 xp_20 0 0), (cO8_iiri xr_17 8 3 xrc_21 0), (cAI g xrc_21 24 (fun _ => 0)), (cO8_iiri xm_18 12 3 xmc_22 0), (cAI g xmc_22 36 (fun _ => 0)), (cO8_iiri xw_19 6 3 xwc_23 0), (cAI g xwc_23 18 (fun _ => 0)), (cO8_iiri xp_20 8 2 xpc_24 0), (cAI g xpc_24 16 (fun _ => 0)), (cO8_iiri xhn_3 1 6 xhnc_10 0), (cAI g xhnc_10 6 (fun _ => 0)), (cO8_iiri xht_4 4 1 xhtc_11 0), (cAI g xhtc_11 4 (fun _ => 0)), (cO8_iiri xhj_5 8 2 xhjc_12 0), (cAI g xhjc_12 16 (fun _ => 0)), (cO8_iiri xhm_6 4 3 xhmc_13 0), (cAI g xhmc_13 12 (fun _ => 0)), (cO8_iiri xhb_7 1 3 xhbc_14 0), (cAI g xhbc_14 3 (fun _ => 0)), (cO8_iiri xhs_8 6 3 xhsc_15 0), (cAI g xhsc_15 18 (fun _ => 0)), (cO8_iiri xhc_9 6 2 xhcc_16 0), (cAI g xhcc_16 12 (fun _ => 0)), (cAB g q_25 900 (fun _ => 0)), (cAJ g q_26 16 (fun _ => 0)), (cO8_iini q_27 0 0 0)] rfl ?_
  refine k_wide 27 1143 (Nat.le_of_ble_eq_true rfl) (Nat.le_of_ble_eq_true rfl) ?_
  refine k_dup X dX9_init_56 rfl ?_
  refine k_bipush (v := 16) X dX9_init_57 (by decide) ?_
  refine k_iconst (v := 2) X dX9_init_59 (by decide) ?_
  refine k_callII (n := 2) (As := [.int 16, .int 2]) (st := [.ref q_27, .ref h0]) X [(cO8_iini q_27 0 0 0)] [(cO9_i1r1i2r1i1r1n1i4l1i2 h0 0 q_1 0 0 q_25 0 q_26 0 0 0 0 0 0 0), (cO3_rrrrrrrr q_1 xs_2 xhn_3 xht_4 xhj_5 xhm_6 xhb_7 xhs_8 xhc_9), (cO7_rrrrii xs_2 xr_17 xm_18 xw_19 xp_20 0 0), (cO8_iiri xr_17 8 3 xrc_21 0), (cAI g xrc_21 24 (fun _ => 0)), (cO8_iiri xm_18 12 3 xmc_22 0), (cAI g xmc_22 36 (fun _ => 0)), (cO8_iiri xw_19 6 3 xwc_23 0), (cAI g xwc_23 18 (fun _ => 0)), (cO8_iiri xp_20 8 2 xpc_24 0), (cAI g xpc_24 16 (fun _ => 0)), (cO8_iiri xhn_3 1 6 xhnc_10 0), (cAI g xhnc_10 6 (fun _ => 0)), (cO8_iiri xht_4 4 1 xhtc_11 0), (cAI g xhtc_11 4 (fun _ => 0)), (cO8_iiri xhj_5 8 2 xhjc_12 0), (cAI g xhjc_12 16 (fun _ => 0)), (cO8_iiri xhm_6 4 3 xhmc_13 0), (cAI g xhmc_13 12 (fun _ => 0)), (cO8_iiri xhb_7 1 3 xhbc_14 0), (cAI g xhbc_14 3 (fun _ => 0)), (cO8_iiri xhs_8 6 3 xhsc_15 0), (cAI g xhsc_15 18 (fun _ => 0)), (cO8_iiri xhc_9 6 2 xhcc_16 0), (cAI g xhcc_16 12 (fun _ => 0)), (cAB g q_25 900 (fun _ => 0)), (cAJ g q_26 16 (fun _ => 0))] [27] [0, 1, 2, 3, 4, 5, 6, 7, 8, 9, 10, 11, 12, 13, 14, 15, 16, 17, 18, 19, 20, 21, 22, 23, 24, 25, 26] (i_T_16_2 l g q_27) dX9_init_60 mw110 mw97 mw64 mw98 rfl yk_yX8_init_2 rfl (Nat.le_of_ble_eq_true rfl) (Nat.le_of_ble_eq_true rfl) (Nat.le_of_ble_eq_true rfl) (Nat.le_of_ble_eq_true rfl) (Nat.le_of_ble_eq_true rfl) rfl rfl (by decide +kernel) rfl (by decide +kernel) (by decide +kernel) ?_
  rintro w ⟨qc_28, rfl⟩
  refine k_ws [(cO9_i1r1i2r1i1r1n1i4l1i2 h0 0 q_1 0 0 q_25 0 q_26 0 0 0 0 0 0 0), (cO3_rrrrrrrr q_1 xs_2 xhn_3 xht_4 xhj_5 xhm_6 xhb_7 xhs_8 xhc_9), (cO7_rrrrii xs_2 xr_17 xm_18 xw_19 xp_20 0 0), (cO8_iiri xr_17 8 3 xrc_21 0), (cAI g xrc_21 24 (fun _ => 0)), (cO8_iiri xm_18 12 3 xmc_22 0), (cAI g xmc_22 36 (fun _ => 0)), (cO8_iiri xw_19 6 3 xwc_23 0), (cAI g xwc_23 18 (fun _ => 0)), (cO8_iiri xp_20 8 2 xpc_24 0), (cAI g xpc_24 16 (fun _ => 0)), (cO8_iiri xhn_3 1 6 xhnc_10 0), (cAI g xhnc_10 6 (fun _ => 0)), (cO8_iiri xht_4 4 1 xhtc_11 0), (cAI g xhtc_11 4 (fun _ => 0)), (cO8_iiri xhj_5 8 2 xhjc_12 0), (cAI g xhjc_12 16 (fun _ => 0)), (cO8_iiri xhm_6 4 3 xhmc_13 0), (cAI g xhmc_13 12 (fun _ => 0)), (cO8_iiri xhb_7 1 3 xhbc_14 0), (cAI g xhbc_14 3 (fun _ => 0)), (cO8_iiri xhs_8 6 3 xhsc_15 0), (cAI g xhsc_15 18 (fun _ => 0)), (cO8_iiri xhc_9 6 2 xhcc_16 0), (cAI g xhcc_16 12 (fun _ => 0)), (cAB g q_25 900 (fun _ => 0)), (cAJ g q_26 16 (fun _ => 0)), (cO8_iiri q_27 16 2 qc_28 0), (cAI g qc_28 32 (fun _ => 0))] rfl ?_
  refine k_wide 28 1175 (Nat.le_of_ble_eq_true rfl) (Nat.le_of_ble_eq_true rfl) ?_
  refine k_putF (ci := 9) [(cO9_i1r1i2r1i1r2i4l1i2 h0 0 q_1 0 0 q_25 0 q_26 q_27 0 0 0 0 0 0 0), (cO3_rrrrrrrr q_1 xs_2 xhn_3 xht_4 xhj_5 xhm_6 xhb_7 xhs_8 xhc_9), (cO7_rrrrii xs_2 xr_17 xm_18 xw_19 xp_20 0 0), (cO8_iiri xr_17 8 3 xrc_21 0), (cAI g xrc_21 24 (fun _ => 0)), (cO8_iiri xm_18 12 3 xmc_22 0), (cAI g xmc_22 36 (fun _ => 0)), (cO8_iiri xw_19 6 3 xwc_23 0), (cAI g xwc_23 18 (fun _ => 0)), (cO8_iiri xp_20 8 2 xpc_24 0), (cAI g xpc_24 16 (fun _ => 0)), (cO8_iiri xhn_3 1 6 xhnc_10 0), (cAI g xhnc_10 6 (fun _ => 0)), (cO8_iiri xht_4 4 1 xhtc_11 0), (cAI g xhtc_11 4 (fun _ => 0)), (cO8_iiri xhj_5 8 2 xhjc_12 0), (cAI g xhjc_12 16 (fun _ => 0)), (cO8_iiri xhm_6 4 3 xhmc_13 0), (cAI g xhmc_13 12 (fun _ => 0)), (cO8_iiri xhb_7 1 3 xhbc_14 0), (cAI g xhbc_14 3 (fun _ => 0)), (cO8_iiri xhs_8 6 3 xhsc_15 0), (cAI g xhsc_15 18 (fun _ => 0)), (cO8_iiri xhc_9 6 2 xhcc_16 0), (cAI g xhcc_16 12 (fun _ => 0)), (cAB g q_25 900 (fun _ => 0)), (cAJ g q_26 16 (fun _ => 0)), (cO8_iiri q_27 16 2 qc_28 0), (cAI g qc_28 32 (fun _ => 0))] X hi inlX9 rfl tyX9_ok nmX9 7 (by decide) rfl rfl dX9_init_63 mw65 0 rfl rfl rfl (Nat.le_of_ble_eq_true rfl) rfl ?_
  refine k_aload_n X dX9_init_66 0 rfl ?_
  refine k_iconst (v := 0) X dX9_init_67 (by decide) ?_
  refine k_put (ci := 9) [(cO9_i1r1i2r1i1r2i4l1i2 h0 0 q_1 0 0 q_25 0 q_26 q_27 0 0 0 0 0 0 0), (cO3_rrrrrrrr q_1 xs_2 xhn_3 xht_4 xhj_5 xhm_6 xhb_7 xhs_8 xhc_9), (cO7_rrrrii xs_2 xr_17 xm_18 xw_19 xp_20 0 0), (cO8_iiri xr_17 8 3 xrc_21 0), (cAI g xrc_21 24 (fun _ => 0)), (cO8_iiri xm_18 12 3 xmc_22 0), (cAI g xmc_22 36 (fun _ => 0)), (cO8_iiri xw_19 6 3 xwc_23 0), (cAI g xwc_23 18 (fun _ => 0)), (cO8_iiri xp_20 8 2 xpc_24 0), (cAI g xpc_24 16 (fun _ => 0)), (cO8_iiri xhn_3 1 6 xhnc_10 0), (cAI g xhnc_10 6 (fun _ => 0)), (cO8_iiri xht_4 4 1 xhtc_11 0), (cAI g xhtc_11 4 (fun _ => 0)), (cO8_iiri xhj_5 8 2 xhjc_12 0), (cAI g xhjc_12 16 (fun _ => 0)), (cO8_iiri xhm_6 4 3 xhmc_13 0), (cAI g xhmc_13 12 (fun _ => 0)), (cO8_iiri xhb_7 1 3 xhbc_14 0), (cAI g xhbc_14 3 (fun _ => 0)), (cO8_iiri xhs_8 6 3 xhsc_15 0), (cAI g xhsc_15 18 (fun _ => 0)), (cO8_iiri xhc_9 6 2 xhcc_16 0), (cAI g xhcc_16 12 (fun _ => 0)), (cAB g q_25 900 (fun _ => 0)), (cAJ g q_26 16 (fun _ => 0)), (cO8_iiri q_27 16 2 qc_28 0), (cAI g qc_28 32 (fun _ => 0))] X inlX9 rfl tyX9_ok nmX9 8 (by decide) rfl dX9_init_68 mw66 0 rfl rfl rfl (Nat.le_of_ble_eq_true rfl) rfl ?_
  refine k_aload_n X dX9_init_71 0 rfl ?_
  refine k_iconst (v := 0) X dX9_init_72 (by decide) ?_
  refine k_put (ci := 9) [(cO9_i1r1i2r1i1r2i4l1i2 h0 0 q_1 0 0 q_25 0 q_26 q_27 0 0 0 0 0 0 0), (cO3_rrrrrrrr q_1 xs_2 xhn_3 xht_4 xhj_5 xhm_6 xhb_7 xhs_8 xhc_9), (cO7_rrrrii xs_2 xr_17 xm_18 xw_19 xp_20 0 0), (cO8_iiri xr_17 8 3 xrc_21 0), (cAI g xrc_21 24 (fun _ => 0)), (cO8_iiri xm_18 12 3 xmc_22 0), (cAI g xmc_22 36 (fun _ => 0)), (cO8_iiri xw_19 6 3 xwc_23 0), (cAI g xwc_23 18 (fun _ => 0)), (cO8_iiri xp_20 8 2 xpc_24 0), (cAI g xpc_24 16 (fun _ => 0)), (cO8_iiri xhn_3 1 6 xhnc_10 0), (cAI g xhnc_10 6 (fun _ => 0)), (cO8_iiri xht_4 4 1 xhtc_11 0), (cAI g xhtc_11 4 (fun _ => 0)), (cO8_iiri xhj_5 8 2 xhjc_12 0), (cAI g xhjc_12 16 (fun _ => 0)), (cO8_iiri xhm_6 4 3 xhmc_13 0), (cAI g xhmc_13 12 (fun _ => 0)), (cO8_iiri xhb_7 1 3 xhbc_14 0), (cAI g xhbc_14 3 (fun _ => 0)), (cO8_iiri xhs_8 6 3 xhsc_15 0), (cAI g xhsc_15 18 (fun _ => 0)), (cO8_iiri xhc_9 6 2 xhcc_16 0), (cAI g xhcc_16 12 (fun _ => 0)), (cAB g q_25 900 (fun _ => 0)), (cAJ g q_26 16 (fun _ => 0)), (cO8_iiri q_27 16 2 qc_28 0), (cAI g qc_28 32 (fun _ => 0))] X inlX9 rfl tyX9_ok nmX9 9 (by decide) rfl dX9_init_73 mw67 0 rfl rfl rfl (Nat.le_of_ble_eq_true rfl) rfl ?_
  refine k_aload_n X dX9_init_76 0 rfl ?_
  refine k_iconst (v := 0) X dX9_init_77 (by decide) ?_
  refine k_put (ci := 9) [(cO9_i1r1i2r1i1r2i4l1i2 h0 0 q_1 0 0 q_25 0 q_26 q_27 0 0 0 0 0 0 0), (cO3_rrrrrrrr q_1 xs_2 xhn_3 xht_4 xhj_5 xhm_6 xhb_7 xhs_8 xhc_9), (cO7_rrrrii xs_2 xr_17 xm_18 xw_19 xp_20 0 0), (cO8_iiri xr_17 8 3 xrc_21 0), (cAI g xrc_21 24 (fun _ => 0)), (cO8_iiri xm_18 12 3 xmc_22 0), (cAI g xmc_22 36 (fun _ => 0)), (cO8_iiri xw_19 6 3 xwc_23 0), (cAI g xwc_23 18 (fun _ => 0)), (cO8_iiri xp_20 8 2 xpc_24 0), (cAI g xpc_24 16 (fun _ => 0)), (cO8_iiri xhn_3 1 6 xhnc_10 0), (cAI g xhnc_10 6 (fun _ => 0)), (cO8_iiri xht_4 4 1 xhtc_11 0), (cAI g xhtc_11 4 (fun _ => 0)), (cO8_iiri xhj_5 8 2 xhjc_12 0), (cAI g xhjc_12 16 (fun _ => 0)), (cO8_iiri xhm_6 4 3 xhmc_13 0), (cAI g xhmc_13 12 (fun _ => 0)), (cO8_iiri xhb_7 1 3 xhbc_14 0), (cAI g xhbc_14 3 (fun _ => 0)), (cO8_iiri xhs_8 6 3 xhsc_15 0), (cAI g xhsc_15 18 (fun _ => 0)), (cO8_iiri xhc_9 6 2 xhcc_16 0), (cAI g xhcc_16 12 (fun _ => 0)), (cAB g q_25 900 (fun _ => 0)), (cAJ g q_26 16 (fun _ => 0)), (cO8_iiri q_27 16 2 qc_28 0), (cAI g qc_28 32 (fun _ => 0))] X inlX9 rfl tyX9_ok nmX9 10 (by decide) rfl dX9_init_78 mw68 0 rfl rfl rfl (Nat.le_of_ble_eq_true rfl) rfl ?_
  refine k_aload_n X dX9_init_81 0 rfl ?_
  refine k_iconst (v := 0) X dX9_init_82 (by decide) ?_
  refine k_put (ci := 9) [(cO9_i1r1i2r1i1r2i4l1i2 h0 0 q_1 0 0 q_25 0 q_26 q_27 0 0 0 0 0 0 0), (cO3_rrrrrrrr q_1 xs_2 xhn_3 xht_4 xhj_5 xhm_6 xhb_7 xhs_8 xhc_9), (cO7_rrrrii xs_2 xr_17 xm_18 xw_19 xp_20 0 0), (cO8_iiri xr_17 8 3 xrc_21 0), (cAI g xrc_21 24 (fun _ => 0)), (cO8_iiri xm_18 12 3 xmc_22 0), (cAI g xmc_22 36 (fun _ => 0)), (cO8_iiri xw_19 6 3 xwc_23 0), (cAI g xwc_23 18 (fun _ => 0)), (cO8_iiri xp_20 8 2 xpc_24 0), (cAI g xpc_24 16 (fun _ => 0)), (cO8_iiri xhn_3 1 6 xhnc_10 0), (cAI g xhnc_10 6 (fun _ => 0)), (cO8_iiri xht_4 4 1 xhtc_11 0), (cAI g xhtc_11 4 (fun _ => 0)), (cO8_iiri xhj_5 8 2 xhjc_12 0), (cAI g xhjc_12 16 (fun _ => 0)), (cO8_iiri xhm_6 4 3 xhmc_13 0), (cAI g xhmc_13 12 (fun _ => 0)), (cO8_iiri xhb_7 1 3 xhbc_14 0), (cAI g xhbc_14 3 (fun _ => 0)), (cO8_iiri xhs_8 6 3 xhsc_15 0), (cAI g xhsc_15 18 (fun _ => 0)), (cO8_iiri xhc_9 6 2 xhcc_16 0), (cAI g xhcc_16 12 (fun _ => 0)), (cAB g q_25 900 (fun _ => 0)), (cAJ g q_26 16 (fun _ => 0)), (cO8_iiri q_27 16 2 qc_28 0), (cAI g qc_28 32 (fun _ => 0))] X inlX9 rfl tyX9_ok nmX9 11 (by decide) rfl dX9_init_83 mw69 0 rfl rfl rfl (Nat.le_of_ble_eq_true rfl) rfl ?_
  refine k_aload_n X dX9_init_86 0 rfl ?_
  refine k_lconst (v := 0) X dX9_init_87 (by decide) ?_
  refine k_put (ci := 9) [(cO9_i1r1i2r1i1r2i4l1i2 h0 0 q_1 0 0 q_25 0 q_26 q_27 0 0 0 0 0 0 0), (cO3_rrrrrrrr q_1 xs_2 xhn_3 xht_4 xhj_5 xhm_6 xhb_7 xhs_8 xhc_9), (cO7_rrrrii xs_2 xr_17 xm_18 xw_19 xp_20 0 0), (cO8_iiri xr_17 8 3 xrc_21 0), (cAI g xrc_21 24 (fun _ => 0)), (cO8_iiri xm_18 12 3 xmc_22 0), (cAI g xmc_22 36 (fun _ => 0)), (cO8_iiri xw_19 6 3 xwc_23 0), (cAI g xwc_23 18 (fun _ => 0)), (cO8_iiri xp_20 8 2 xpc_24 0), (cAI g xpc_24 16 (fun _ => 0)), (cO8_iiri xhn_3 1 6 xhnc_10 0), (cAI g xhnc_10 6 (fun _ => 0)), (cO8_iiri xht_4 4 1 xhtc_11 0), (cAI g xhtc_11 4 (fun _ => 0)), (cO8_iiri xhj_5 8 2 xhjc_12 0), (cAI g xhjc_12 16 (fun _ => 0)), (cO8_iiri xhm_6 4 3 xhmc_13 0), (cAI g xhmc_13 12 (fun _ => 0)), (cO8_iiri xhb_7 1 3 xhbc_14 0), (cAI g xhbc_14 3 (fun _ => 0)), (cO8_iiri xhs_8 6 3 xhsc_15 0), (cAI g xhsc_15 18 (fun _ => 0)), (cO8_iiri xhc_9 6 2 xhcc_16 0), (cAI g xhcc_16 12 (fun _ => 0)), (cAB g q_25 900 (fun _ => 0)), (cAJ g q_26 16 (fun _ => 0)), (cO8_iiri q_27 16 2 qc_28 0), (cAI g qc_28 32 (fun _ => 0))] X inlX9 rfl tyX9_ok nmX9 12 (by decide) rfl dX9_init_88 mw70 0 rfl rfl rfl (Nat.le_of_ble_eq_true rfl) rfl ?_
  refine k_aload_n X dX9_init_91 0 rfl ?_
  refine k_iconst (v := 0) X dX9_init_92 (by decide) ?_
  refine k_put (ci := 9) [(cO9_i1r1i2r1i1r2i4l1i2 h0 0 q_1 0 0 q_25 0 q_26 q_27 0 0 0 0 0 0 0), (cO3_rrrrrrrr q_1 xs_2 xhn_3 xht_4 xhj_5 xhm_6 xhb_7 xhs_8 xhc_9), (cO7_rrrrii xs_2 xr_17 xm_18 xw_19 xp_20 0 0), (cO8_iiri xr_17 8 3 xrc_21 0), (cAI g xrc_21 24 (fun _ => 0)), (cO8_iiri xm_18 12 3 xmc_22 0), (cAI g xmc_22 36 (fun _ => 0)), (cO8_iiri xw_19 6 3 xwc_23 0), (cAI g xwc_23 18 (fun _ => 0)), (cO8_iiri xp_20 8 2 xpc_24 0), (cAI g xpc_24 16 (fun _ => 0)), (cO8_iiri xhn_3 1 6 xhnc_10 0), (cAI g xhnc_10 6 (fun _ => 0)), (cO8_iiri xht_4 4 1 xhtc_11 0), (cAI g xhtc_11 4 (fun _ => 0)), (cO8_iiri xhj_5 8 2 xhjc_12 0), (cAI g xhjc_12 16 (fun _ => 0)), (cO8_iiri xhm_6 4 3 xhmc_13 0), (cAI g xhmc_13 12 (fun _ => 0)), (cO8_iiri xhb_7 1 3 xhbc_14 0), (cAI g xhbc_14 3 (fun _ => 0)), (cO8_iiri xhs_8 6 3 xhsc_15 0), (cAI g xhsc_15 18 (fun _ => 0)), (cO8_iiri xhc_9 6 2 xhcc_16 0), (cAI g xhcc_16 12 (fun _ => 0)), (cAB g q_25 900 (fun _ => 0)), (cAJ g q_26 16 (fun _ => 0)), (cO8_iiri q_27 16 2 qc_28 0), (cAI g qc_28 32 (fun _ => 0))] X inlX9 rfl tyX9_ok nmX9 13 (by decide) rfl dX9_init_93 mw71 0 rfl rfl rfl (Nat.le_of_ble_eq_true rfl) rfl ?_
  refine k_aload_n X dX9_init_96 0 rfl ?_
  refine k_iconst (v := 0) X dX9_init_97 (by decide) ?_
  refine k_put (ci := 9) [(cO9_i1r1i2r1i1r2i4l1i2 h0 0 q_1 0 0 q_25 0 q_26 q_27 0 0 0 0 0 0 0), (cO3_rrrrrrrr q_1 xs_2 xhn_3 xht_4 xhj_5 xhm_6 xhb_7 xhs_8 xhc_9), (cO7_rrrrii xs_2 xr_17 xm_18 xw_19 xp_20 0 0), (cO8_iiri xr_17 8 3 xrc_21 0), (cAI g xrc_21 24 (fun _ => 0)), (cO8_iiri xm_18 12 3 xmc_22 0), (cAI g xmc_22 36 (fun _ => 0)), (cO8_iiri xw_19 6 3 xwc_23 0), (cAI g xwc_23 18 (fun _ => 0)), (cO8_iiri xp_20 8 2 xpc_24 0), (cAI g xpc_24 16 (fun _ => 0)), (cO8_iiri xhn_3 1 6 xhnc_10 0), (cAI g xhnc_10 6 (fun _ => 0)), (cO8_iiri xht_4 4 1 xhtc_11 0), (cAI g xhtc_11 4 (fun _ => 0)), (cO8_iiri xhj_5 8 2 xhjc_12 0), (cAI g xhjc_12 16 (fun _ => 0)), (cO8_iiri xhm_6 4 3 xhmc_13 0), (cAI g xhmc_13 12 (fun _ => 0)), (cO8_iiri xhb_7 1 3 xhbc_14 0), (cAI g xhbc_14 3 (fun _ => 0)), (cO8_iiri xhs_8 6 3 xhsc_15 0), (cAI g xhsc_15 18 (fun _ => 0)), (cO8_iiri xhc_9 6 2 xhcc_16 0), (cAI g xhcc_16 12 (fun _ => 0)), (cAB g q_25 900 (fun _ => 0)), (cAJ g q_26 16 (fun _ => 0)), (cO8_iiri q_27 16 2 qc_28 0), (cAI g qc_28 32 (fun _ => 0))] X inlX9 rfl tyX9_ok nmX9 14 (by decide) rfl dX9_init_98 mw72 0 rfl rfl rfl (Nat.le_of_ble_eq_true rfl) rfl ?_
  exact k_vret X hr dX9_init_101 (Nat.le_of_ble_eq_true rfl) (Nat.le_of_ble_eq_true rfl) [0, 25, 26, 27, 28, 1, 2, 3, 4, 5, 6, 7, 8, 9, 10, 11, 12, 13, 14, 15, 16, 17, 18, 19, 20, 21, 22, 23, 24] (by decide) rfl rfl ⟨q_1, q_25, q_26, q_27, qc_28, xs_2, xhn_3, xht_4, xhj_5, xhm_6, xhb_7, xhs_8, xhc_9, xhnc_10, xhtc_11, xhjc_12, xhmc_13, xhbc_14, xhsc_15, xhcc_16, xr_17, xm_18, xw_19, xp_20, xrc_21, xmc_22, xwc_23, xpc_24, rfl⟩
