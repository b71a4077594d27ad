theorem dX8_init_0 : decode cX8_init 0 = .ok (.aload_n 0, 1) := dk_42 rfl
theorem dX8_init_1 : decode cX8_init 1 = .ok (.invokespecial 1, 3) := dk_183 rfl rfl rfl rfl
theorem dX8_init_4 : decode cX8_init 4 = .ok (.aload_n 0, 1) := dk_42 rfl
theorem dX8_init_5 : decode cX8_init 5 = .ok (.iconst 0, 1) := dk_3 rfl
theorem dX8_init_6 : decode cX8_init 6 = .ok (.putfield 7, 3) := dk_181 rfl rfl rfl rfl
theorem dX8_init_9 : decode cX8_init 9 = .ok (.aload_n 0, 1) := dk_42 rfl
theorem dX8_init_10 : decode cX8_init 10 = .ok (.iconst 0, 1) := dk_3 rfl
theorem dX8_init_11 : decode cX8_init 11 = .ok (.iload_n 1, 1) := dk_27 rfl
theorem dX8_init_12 : decode cX8_init 12 = .ok (.invokestatic 13, 3) := dk_184 rfl rfl rfl rfl
theorem dX8_init_15 : decode cX8_init 15 = .ok (.putfield 19, 3) := dk_181 rfl rfl rfl rfl
theorem dX8_init_18 : decode cX8_init 18 = .ok (.aload_n 0, 1) := dk_42 rfl
theorem dX8_init_19 : decode cX8_init 19 = .ok (.iconst 0, 1) := dk_3 rfl
theorem dX8_init_20 : decode cX8_init 20 = .ok (.iload_n 2, 1) := dk_28 rfl
theorem dX8_init_21 : decode cX8_init 21 = .ok (.invokestatic 13, 3) := dk_184 rfl rfl rfl rfl
theorem dX8_init_24 : decode cX8_init 24 = .ok (.putfield 22, 3) := dk_181 rfl rfl rfl rfl
theorem dX8_init_27 : decode cX8_init 27 = .ok (.aload_n 0, 1) := dk_42 rfl
theorem dX8_init_28 : decode cX8_init 28 = .ok (.aload_n 0, 1) := dk_42 rfl
theorem dX8_init_29 : decode cX8_init 29 = .ok (.getfield 19, 3) := dk_180 rfl rfl rfl rfl
theorem dX8_init_32 : decode cX8_init 32 = .ok (.aload_n 0, 1) := dk_42 rfl
theorem dX8_init_33 : decode cX8_init 33 = .ok (.getfield 22, 3) := dk_180 rfl rfl rfl rfl
theorem dX8_init_36 : decode cX8_init 36 = .ok (.imul, 1) := dk_104 rfl
theorem dX8_init_37 : decode cX8_init 37 = .ok (.newarray .int, 2) := by decide +kernel
theorem dX8_init_39 : decode cX8_init 39 = .ok (.putfield 25, 3) := dk_181 rfl rfl rfl rfl
theorem dX8_init_42 : decode cX8_init 42 = .ok (.return_, 1) := dk_177 rfl
set_option maxHeartbeats 4000000 in
set_option maxRecDepth 100000 in
theorem i_T (l : Launch) (g : Gx) (h0 : Nat) (R : Int32) (V : Int32) (N : Nat) (hR : (if (0 : Int32) < R then R else 0) = R) (hV : (if (0 : Int32) < V then V else 0) = V) (hM : ¬ R * V < 0) (hN : (R * V).toNatClampNeg = N) (hB : N * 4 ≤ 536870912) : cV l g yX8_init cX8_init 3 1 21 1 N [.ref h0, .int R, .int V] [(cO8_iini h0 0 0 0)] (fun w => ∃ qc, w = [(cO8_iiri h0 R V qc 0), (cAI g qc N (fun _ => 0))]) := by
  refine cV.of (by decide) (Nat.le_of_ble_eq_true rfl) ?_
  intro p e s m args below meth c A X hr hi
  refine k_lveq [(0, .ref h0), (1, .int R), (2, .int V)] rfl ?_
  refine k_aload_n X dX8_init_0 0 rfl ?_
  refine k_objInit X dX8_init_1 mw99 mw11 mw12 (Nat.le_of_ble_eq_true rfl) (Nat.le_of_ble_eq_true rfl) ?_
  refine k_aload_n X dX8_init_4 0 rfl ?_
  refine k_iconst (v := 0) X dX8_init_5 (by decide) ?_
  refine k_put (ci := 8) [(cO8_iini h0 0 0 0)] X inlX8 rfl tyX8_ok nmX8 3 (by decide) rfl dX8_init_6 mw100 0 rfl rfl rfl (Nat.le_of_ble_eq_true rfl) rfl ?_
  refine k_aload_n X dX8_init_9 0 rfl ?_
  refine k_iconst (v := 0) X dX8_init_10 (by decide) ?_
  refine k_iload_n X dX8_init_11 1 rfl ?_
  refine k_mmax X dX8_init_12 mw101 mw102 mw103 mw104 (Nat.le_of_ble_eq_true rfl) (Nat.le_of_ble_eq_true rfl) (Nat.zero_le _) (Nat.zero_le _) ?_
  refine k_to R hR ?_
  refine k_putF (ci := 8) [(cO8_iini h0 R 0 0)] X hi inlX8 rfl tyX8_ok nmX8 0 (by decide) rfl rfl dX8_init_15 mw105 0 rfl rfl rfl (Nat.le_of_ble_eq_true rfl) rfl ?_
  refine k_aload_n X dX8_init_18 0 rfl ?_
  refine k_iconst (v := 0) X dX8_init_19 (by decide) ?_
  refine k_iload_n X dX8_init_20 2 rfl ?_
  refine k_mmax X dX8_init_21 mw101 mw102 mw103 mw104 (Nat.le_of_ble_eq_true rfl) (Nat.le_of_ble_eq_true rfl) (Nat.zero_le _) (Nat.zero_le _) ?_
  refine k_to V hV ?_
  refine k_putF (ci := 8) [(cO8_iini h0 R V 0)] X hi inlX8 rfl tyX8_ok nmX8 1 (by decide) rfl rfl dX8_init_24 mw106 0 rfl rfl rfl (Nat.le_of_ble_eq_true rfl) rfl ?_
  refine k_aload_n X dX8_init_27 0 rfl ?_
  refine k_aload_n X dX8_init_28 0 rfl ?_
  refine k_get (ci := 8) X inlX8 rfl 0 (by decide) dX8_init_29 mw105 0 rfl rfl ?_
  refine k_aload_n X dX8_init_32 0 rfl ?_
  refine k_get (ci := 8) X inlX8 rfl 1 (by decide) dX8_init_33 mw106 0 rfl rfl ?_
  refine k_imul X dX8_init_36 ?_
  refine k_nm (fun z_1 ez_1 => ?_)
  refine k_newaI N X dX8_init_37 mw107 (by rw [ez_1]; exact hM) (by rw [ez_1]; exact hN) hB (Nat.le_of_ble_eq_true rfl) (by show 0 + N ≤ N; omega) (fun q_2 => ?_)
  refine k_ws [(cO8_iini h0 R V 0), (cAI g q_2 N (fun _ => 0))] rfl ?_
  refine k_wide 1 N (Nat.le_of_ble_eq_true rfl) (by omega) ?_
  refine k_putF (ci := 8) [(cO8_iiri h0 R V q_2 0), (cAI g q_2 N (fun _ => 0))] X hi inlX8 rfl tyX8_ok nmX8 2 (by decide) rfl rfl dX8_init_39 mw108 0 rfl rfl rfl (Nat.le_of_ble_eq_true rfl) rfl ?_
  exact k_vret X hr dX8_init_42 (Nat.le_of_ble_eq_true rfl) (Nat.le_refl _) [0, 1] (by decide) rfl rfl ⟨q_2, rfl⟩

theorem i_T_8_3 (l : Launch) (g : Gx) (h0 : Nat) : cV l g yX8_init cX8_init 3 1 21 1 24 [.ref h0, .int 8, .int 3] [(cO8_iini h0 0 0 0)] (fun w => ∃ qc, w = [(cO8_iiri h0 8 3 qc 0), (cAI g qc 24 (fun _ => 0))]) := i_T l g h0 8 3 24 (by decide) (by decide) (by decide) (by decide) (by decide)

theorem i_T_12_3 (l : Launch) (g : Gx) (h0 : Nat) : cV l g yX8_init cX8_init 3 1 21 1 36 [.ref h0, .int 12, .int 3] [(cO8_iini h0 0 0 0)] (fun w => ∃ qc, w = [(cO8_iiri h0 12 3 qc 0), (cAI g qc 36 (fun _ => 0))]) := i_T l g h0 12 3 36 (by decide) (by decide) (by decide) (by decide) (by decide)

theorem i_T_6_3 (l : Launch) (g : Gx) (h0 : Nat) : cV l g yX8_init cX8_init 3 1 21 1 18 [.ref h0, .int 6, .int 3] [(cO8_iini h0 0 0 0)] (fun w => ∃ qc, w = [(cO8_iiri h0 6 3 qc 0), (cAI g qc 18 (fun _ => 0))]) := i_T l g h0 6 3 18 (by decide) (by decide) (by decide) (by decide) (by decide)

theorem i_T_8_2 (l : Launch) (g : Gx) (h0 : Nat) : cV l g yX8_init cX8_init 3 1 21 1 16 [.ref h0, .int 8, .int 2] [(cO8_iini h0 0 0 0)] (fun w => ∃ qc, w = [(cO8_iiri h0 8 2 qc 0), (cAI g qc 16 (fun _ => 0))]) := i_T l g h0 8 2 16 (by decide) (by decide) (by decide) (by decide) (by decide)

theorem i_T_1_6 (l : Launch) (g : Gx) (h0 : Nat) : cV l g yX8_init cX8_init 3 1 21 1 6 [.ref h0, .int 1, .int 6] [(cO8_iini h0 0 0 0)] (fun w => ∃ qc, w = [(cO8_iiri h0 1 6 qc 0), (cAI g qc 6 (fun _ => 0))]) := i_T l g h0 1 6 6 (by decide) (by decide) (by decide) (by decide) (by decide)

theorem i_T_4_1 (l : Launch) (g : Gx) (h0 : Nat) : cV l g yX8_init cX8_init 3 1 21 1 4 [.ref h0, .int 4, .int 1] [(cO8_iini h0 0 0 0)] (fun w => ∃ qc, w = [(cO8_iiri h0 4 1 qc 0), (cAI g qc 4 (fun _ => 0))]) := i_T l g h0 4 1 4 (by decide) (by decide) (by decide) (by decide) (by decide)

theorem i_T_4_3 (l : Launch) (g : Gx) (h0 : Nat) : cV l g yX8_init cX8_init 3 1 21 1 12 [.ref h0, .int 4, .int 3] [(cO8_iini h0 0 0 0)] (fun w => ∃ qc, w = [(cO8_iiri h0 4 3 qc 0), (cAI g qc 12 (fun _ => 0))]) := i_T l g h0 4 3 12 (by decide) (by decide) (by decide) (by decide) (by decide)

theorem i_T_1_3 (l : Launch) (g : Gx) (h0 : Nat) : cV l g yX8_init cX8_init 3 1 21 1 3 [.ref h0, .int 1, .int 3] [(cO8_iini h0 0 0 0)] (fun w => ∃ qc, w = [(cO8_iiri h0 1 3 qc 0), (cAI g qc 3 (fun _ => 0))]) := i_T l g h0 1 3 3 (by decide) (by decide) (by decide) (by decide) (by decide)

theorem i_T_6_2 (l : Launch) (g : Gx) (h0 : Nat) : cV l g yX8_init cX8_init 3 1 21 1 12 [.ref h0, .int 6, .int 2] [(cO8_iini h0 0 0 0)] (fun w => ∃ qc, w = [(cO8_iiri h0 6 2 qc 0), (cAI g qc 12 (fun _ => 0))]) := i_T l g h0 6 2 12 (by decide) (by decide) (by decide) (by decide) (by decide)

theorem i_T_8_10 (l : Launch) (g : Gx) (h0 : Nat) : cV l g yX8_init cX8_init 3 1 21 1 80 [.ref h0, .int 8, .int 10] [(cO8_iini h0 0 0 0)] (fun w => ∃ qc, w = [(cO8_iiri h0 8 10 qc 0), (cAI g qc 80 (fun _ => 0))]) := i_T l g h0 8 10 80 (by decide) (by decide) (by decide) (by decide) (by decide)

theorem i_T_8_1 (l : Launch) (g : Gx) (h0 : Nat) : cV l g yX8_init cX8_init 3 1 21 1 8 [.ref h0, .int 8, .int 1] [(cO8_iini h0 0 0 0)] (fun w => ∃ qc, w = [(cO8_iiri h0 8 1 qc 0), (cAI g qc 8 (fun _ => 0))]) := i_T l g h0 8 1 8 (by decide) (by decide) (by decide) (by decide) (by decide)

theorem i_T_256_1 (l : Launch) (g : Gx) (h0 : Nat) : cV l g yX8_init cX8_init 3 1 21 1 256 [.ref h0, .int 256, .int 1] [(cO8_iini h0 0 0 0)] (fun w => ∃ qc, w = [(cO8_iiri h0 256 1 qc 0), (cAI g qc 256 (fun _ => 0))]) := i_T l g h0 256 1 256 (by decide) (by decide) (by decide) (by decide) (by decide)

theorem i_T_16_2 (l : Launch) (g : Gx) (h0 : Nat) : cV l g yX8_init cX8_init 3 1 21 1 32 [.ref h0, .int 16, .int 2] [(cO8_iini h0 0 0 0)] (fun w => ∃ qc, w = [(cO8_iiri h0 16 2 qc 0), (cAI g qc 32 (fun _ => 0))]) := i_T l g h0 16 2 32 (by decide) (by decide) (by decide) (by decide) (by decide)

theorem dX7_init_0 : decode cX7_init 0 = .ok (.aload_n 0, 1) := dk_42 rfl
theorem dX7_init_1 : decode cX7_init 1 = .ok (.invokespecial 3, 3) := dk_183 rfl rfl rfl rfl
theorem dX7_init_4 : decode cX7_init 4 = .ok (.aload_n 0, 1) := dk_42 rfl
theorem dX7_init_5 : decode cX7_init 5 = .ok (.new 9, 3) := dk_187 rfl rfl rfl rfl
theorem dX7_init_8 : decode cX7_init 8 = .ok (.dup, 1) := dk_89 rfl
theorem dX7_init_9 : decode cX7_init 9 = .ok (.bipush 8, 2) := dk_16 rfl rfl (by decide)
theorem dX7_init_11 : decode cX7_init 11 = .ok (.iconst 3, 1) := dk_6 rfl
theorem dX7_init_12 : decode cX7_init 12 = .ok (.invokespecial 11, 3) := dk_183 rfl rfl rfl rfl
theorem dX7_init_15 : decode cX7_init 15 = .ok (.putfield 14, 3) := dk_181 rfl rfl rfl rfl
theorem dX7_init_18 : decode cX7_init 18 = .ok (.aload_n 0, 1) := dk_42 rfl
theorem dX7_init_19 : decode cX7_init 19 = .ok (.new 9, 3) := dk_187 rfl rfl rfl rfl
theorem dX7_init_22 : decode cX7_init 22 = .ok (.dup, 1) := dk_89 rfl
theorem dX7_init_23 : decode cX7_init 23 = .ok (.bipush 12, 2) := dk_16 rfl rfl (by decide)
theorem dX7_init_25 : decode cX7_init 25 = .ok (.iconst 3, 1) := dk_6 rfl
theorem dX7_init_26 : decode cX7_init 26 = .ok (.invokespecial 11, 3) := dk_183 rfl rfl rfl rfl
theorem dX7_init_29 : decode cX7_init 29 = .ok (.putfield 20, 3) := dk_181 rfl rfl rfl rfl
theorem dX7_init_32 : decode cX7_init 32 = .ok (.aload_n 0, 1) := dk_42 rfl
theorem dX7_init_33 : decode cX7_init 33 = .ok (.new 9, 3) := dk_187 rfl rfl rfl rfl
theorem dX7_init_36 : decode cX7_init 36 = .ok (.dup, 1) := dk_89 rfl
theorem dX7_init_37 : decode cX7_init 37 = .ok (.bipush 6, 2) := dk_16 rfl rfl (by decide)
theorem dX7_init_39 : decode cX7_init 39 = .ok (.iconst 3, 1) := dk_6 rfl
theorem dX7_init_40 : decode cX7_init 40 = .ok (.invokespecial 11, 3) := dk_183 rfl rfl rfl rfl
theorem dX7_init_43 : decode cX7_init 43 = .ok (.putfield 23, 3) := dk_181 rfl rfl rfl rfl
theorem dX7_init_46 : decode cX7_init 46 = .ok (.aload_n 0, 1) := dk_42 rfl
theorem dX7_init_47 : decode cX7_init 47 = .ok (.new 9, 3) := dk_187 rfl rfl rfl rfl
theorem dX7_init_50 : decode cX7_init 50 = .ok (.dup, 1) := dk_89 rfl
theorem dX7_init_51 : decode cX7_init 51 = .ok (.bipush 8, 2) := dk_16 rfl rfl (by decide)
theorem dX7_init_53 : decode cX7_init 53 = .ok (.iconst 2, 1) := dk_5 rfl
theorem dX7_init_54 : decode cX7_init 54 = .ok (.invokespecial 11, 3) := dk_183 rfl rfl rfl rfl
theorem dX7_init_57 : decode cX7_init 57 = .ok (.putfield 26, 3) := dk_181 rfl rfl rfl rfl
theorem dX7_init_60 : decode cX7_init 60 = .ok (.aload_n 0, 1) := dk_42 rfl
theorem dX7_init_61 : decode cX7_init 61 = .ok (.iconst 0, 1) := dk_3 rfl
theorem dX7_init_62 : decode cX7_init 62 = .ok (.putfield 29, 3) := dk_181 rfl rfl rfl rfl
theorem dX7_init_65 : decode cX7_init 65 = .ok (.aload_n 0, 1) := dk_42 rfl
theorem dX7_init_66 : decode cX7_init 66 = .ok (.iconst 0, 1) := dk_3 rfl
theorem dX7_init_67 : decode cX7_init 67 = .ok (.putfield 33, 3) := dk_181 rfl rfl rfl rfl
theorem dX7_init_70 : decode cX7_init 70 = .ok (.return_, 1) := dk_177 rfl
set_option maxHeartbeats 4000000 in
set_option maxRecDepth 100000 in
theorem i_S (l : Launch) (g : Gx) (h0 : Nat) : cV l g yX7_init cX7_init 1 2 43 8 110 [.ref h0] [(cO7_nnnnii h0 0 0)] (fun w => ∃ xr xm xw xp xrc xmc xwc xpc, w = [(cO7_rrrrii h0 xr xm xw xp 0 0), (cO8_iiri xr 8 3 xrc 0), (cAI g xrc 24 (fun _ => 0)), (cO8_iiri xm 12 3 xmc 0), (cAI g xmc 36 (fun _ => 0)), (cO8_iiri xw 6 3 xwc 0), (cAI g xwc 18 (fun _ => 0)), (cO8_iiri xp 8 2 xpc 0), (cAI g xpc 16 (fun _ => 0))]) := by
  refine cV.of (by decide) (Nat.le_of_ble_eq_true rfl) ?_
  intro p e s m args below meth c A X hr hi
  refine k_lveq [(0, .ref h0)] rfl ?_
  refine k_aload_n X dX7_init_0 0 rfl ?_
  refine k_objInit X dX7_init_1 mw88 mw11 mw12 (Nat.le_of_ble_eq_true rfl) (Nat.le_of_ble_eq_true rfl) ?_
  refine k_aload_n X dX7_init_4 0 rfl ?_
  refine k_new (ci := 8) (fs := [.int 0, .int 0, .null, .int 0]) X inlX8 rfl tyX8_ok dX7_init_5 mw89 mw63 mw64 (fun j hj => by rcases (show j = 0 ∨ j = 1 ∨ j = 2 ∨ j = 3 by omega) with rfl | rfl | rfl | rfl <;> rfl) (Nat.le_of_ble_eq_true rfl) (Nat.le_of_ble_eq_true rfl) (fun q_1 => ?_)
  refine k_ws [(cO7_nnnnii h0 0 0), (cO8_iini q_1 0 0 0)] rfl ?_
  refine k_wide 1 4 (Nat.le_of_ble_eq_true rfl) (Nat.le_of_ble_eq_true rfl) ?_
  refine k_dup X dX7_init_8 rfl ?_
  refine k_bipush (v := 8) X dX7_init_9 (by decide) ?_
  refine k_iconst (v := 3) X dX7_init_11 (by decide) ?_
  refine k_callII (n := 2) (As := [.int 8, .int 3]) (st := [.ref q_1, .ref h0]) X [(cO8_iini q_1 0 0 0)] [(cO7_nnnnii h0 0 0)] [1] [0] (i_T_8_3 l g q_1) dX7_init_12 mw96 mw97 mw64 mw98 rfl yk_yX8_init_2 rfl (Nat.le_of_ble_eq_true rfl) (Nat.le_of_ble_eq_true rfl) (Nat.le_of_ble_eq_true rfl) (Nat.le_of_ble_eq_true rfl) (Nat.le_of_ble_eq_true rfl) rfl rfl (by decide) rfl (by decide) (by decide) ?_
  rintro w ⟨qc_2, rfl⟩
  refine k_ws [(cO7_nnnnii h0 0 0), (cO8_iiri q_1 8 3 qc_2 0), (cAI g qc_2 24 (fun _ => 0))] rfl ?_
  refine k_wide 2 28 (Nat.le_of_ble_eq_true rfl) (Nat.le_of_ble_eq_true rfl) ?_
  refine k_putF (ci := 7) [(cO7_rnnnii h0 q_1 0 0), (cO8_iiri q_1 8 3 qc_2 0), (cAI g qc_2 24 (fun _ => 0))] X hi inlX7 rfl tyX7_ok nmX7 0 (by decide) rfl rfl dX7_init_15 mw90 0 rfl rfl rfl (Nat.le_of_ble_eq_true rfl) rfl ?_
  refine k_aload_n X dX7_init_18 0 rfl ?_
  refine k_new (ci := 8) (fs := [.int 0, .int 0, .null, .int 0]) X inlX8 rfl tyX8_ok dX7_init_19 mw89 mw63 mw64 (fun j hj => by rcases (show j = 0 ∨ j = 1 ∨ j = 2 ∨ j = 3 by omega) with rfl | rfl | rfl | rfl <;> rfl) (Nat.le_of_ble_eq_true rfl) (Nat.le_of_ble_eq_true rfl) (fun q_3 => ?_)
  refine k_ws [(cO7_rnnnii h0 q_1 0 0), (cO8_iiri q_1 8 3 qc_2 0), (cAI g qc_2 24 (fun _ => 0)), (cO8_iini q_3 0 0 0)] rfl ?_
  refine k_wide 3 32 (Nat.le_of_ble_eq_true rfl) (Nat.le_of_ble_eq_true rfl) ?_
  refine k_dup X dX7_init_22 rfl ?_
  refine k_bipush (v := 12) X dX7_init_23 (by decide) ?_
  refine k_iconst (v := 3) X dX7_init_25 (by decide) ?_
  refine k_callII (n := 2) (As := [.int 12, .int 3]) (st := [.ref q_3, .ref h0]) X [(cO8_iini q_3 0 0 0)] [(cO7_rnnnii h0 q_1 0 0), (cO8_iiri q_1 8 3 qc_2 0), (cAI g qc_2 24 (fun _ => 0))] [3] [0, 1, 2] (i_T_12_3 l g q_3) dX7_init_26 mw96 mw97 mw64 mw98 rfl yk_yX8_init_2 rfl (Nat.le_of_ble_eq_true rfl) (Nat.le_of_ble_eq_true rfl) (Nat.le_of_ble_eq_true rfl) (Nat.le_of_ble_eq_true rfl) (Nat.le_of_ble_eq_true rfl) rfl rfl (by decide) rfl (by decide) (by decide) ?_
  rintro w ⟨qc_4, rfl⟩
  refine k_ws [(cO7_rnnnii h0 q_1 0 0), (cO8_iiri q_1 8 3 qc_2 0), (cAI g qc_2 24 (fun _ => 0)), (cO8_iiri q_3 12 3 qc_4 0), (cAI g qc_4 36 (fun _ => 0))] rfl ?_
  refine k_wide 4 68 (Nat.le_of_ble_eq_true rfl) (Nat.le_of_ble_eq_true rfl) ?_
  refine k_putF (ci := 7) [(cO7_rrnnii h0 q_1 q_3 0 0), (cO8_iiri q_1 8 3 qc_2 0), (cAI g qc_2 24 (fun _ => 0)), (cO8_iiri q_3 12 3 qc_4 0), (cAI g qc_4 36 (fun _ => 0))] X hi inlX7 rfl tyX7_ok nmX7 1 (by decide) rfl rfl dX7_init_29 mw91 0 rfl rfl rfl (Nat.le_of_ble_eq_true rfl) rfl ?_
  refine k_aload_n X dX7_init_32 0 rfl ?_
  refine k_new (ci := 8) (fs := [.int 0, .int 0, .null, .int 0]) X inlX8 rfl tyX8_ok dX7_init_33 mw89 mw63 mw64 (fun j hj => by rcases (show j = 0 ∨ j = 1 ∨ j = 2 ∨ j = 3 by omega) with rfl | rfl | rfl | rfl <;> rfl) (Nat.le_of_ble_eq_true rfl) (Nat.le_of_ble_eq_true rfl) (fun q_5 => ?_)
  refine k_ws [(cO7_rrnnii h0 q_1 q_3 0 0), (cO8_iiri q_1 8 3 qc_2 0), (cAI g qc_2 24 (fun _ => 0)), (cO8_iiri q_3 12 3 qc_4 0), (cAI g qc_4 36 (fun _ => 0)), (cO8_iini q_5 0 0 0)] rfl ?_
  refine k_wide 5 72 (Nat.le_of_ble_eq_true rfl) (Nat.le_of_ble_eq_true rfl) ?_
  refine k_dup X dX7_init_36 rfl ?_
  refine k_bipush (v := 6) X dX7_init_37 (by decide) ?_
  refine k_iconst (v := 3) X dX7_init_39 (by decide) ?_
  refine k_callII (n := 2) (As := [.int 6, .int 3]) (st := [.ref q_5, .ref h0]) X [(cO8_iini q_5 0 0 0)] [(cO7_rrnnii h0 q_1 q_3 0 0), (cO8_iiri q_1 8 3 qc_2 0), (cAI g qc_2 24 (fun _ => 0)), (cO8_iiri q_3 12 3 qc_4 0), (cAI g qc_4 36 (fun _ => 0))] [5] [0, 1, 2, 3, 4] (i_T_6_3 l g q_5) dX7_init_40 mw96 mw97 mw64 mw98 rfl yk_yX8_init_2 rfl (Nat.le_of_ble_eq_true rfl) (Nat.le_of_ble_eq_true rfl) (Nat.le_of_ble_eq_true rfl) (Nat.le_of_ble_eq_true rfl) (Nat.le_of_ble_eq_true rfl) rfl rfl (by decide) rfl (by decide) (by decide) ?_
  rintro w ⟨qc_6, rfl⟩
  refine k_ws [(cO7_rrnnii h0 q_1 q_3 0 0), (cO8_iiri q_1 8 3 qc_2 0), (cAI g qc_2 24 (fun _ => 0)), (cO8_iiri q_3 12 3 qc_4 0), (cAI g qc_4 36 (fun _ => 0)), (cO8_iiri q_5 6 3 qc_6 0), (cAI g qc_6 18 (fun _ => 0))] rfl ?_
  refine k_wide 6 90 (Nat.le_of_ble_eq_true rfl) (Nat.le_of_ble_eq_true rfl) ?_
  refine k_putF (ci := 7) [(cO7_rrrnii h0 q_1 q_3 q_5 0 0), (cO8_iiri q_1 8 3 qc_2 0), (cAI g qc_2 24 (fun _ => 0)), (cO8_iiri q_3 12 3 qc_4 0), (cAI g qc_4 36 (fun _ => 0)), (cO8_iiri q_5 6 3 qc_6 0), (cAI g qc_6 18 (fun _ => 0))] X hi inlX7 rfl tyX7_ok nmX7 2 (by decide) rfl rfl dX7_init_43 mw92 0 rfl rfl rfl (Nat.le_of_ble_eq_true rfl) rfl ?_
  refine k_aload_n X dX7_init_46 0 rfl ?_
  refine k_new (ci := 8) (fs := [.int 0, .int 0, .null, .int 0]) X inlX8 rfl tyX8_ok dX7_init_47 mw89 mw63 mw64 (fun j hj => by rcases (show j = 0 ∨ j = 1 ∨ j = 2 ∨ j = 3 by omega) with rfl | rfl | rfl | rfl <;> rfl) (Nat.le_of_ble_eq_true rfl) (Nat.le_of_ble_eq_true rfl) (fun q_7 => ?_)
  refine k_ws [(cO7_rrrnii h0 q_1 q_3 q_5 0 0), (cO8_iiri q_1 8 3 qc_2 0), (cAI g qc_2 24 (fun _ => 0)), (cO8_iiri q_3 12 3 qc_4 0), (cAI g qc_4 36 (fun _ => 0)), (cO8_iiri q_5 6 3 qc_6 0), (cAI g qc_6 18 (fun _ => 0)), (cO8_iini q_7 0 0 0)] rfl ?_
  refine k_wide 7 94 (Nat.le_of_ble_eq_true rfl) (Nat.le_of_ble_eq_true rfl) ?_
  refine k_dup X dX7_init_50 rfl ?_
  refine k_bipush (v := 8) X dX7_init_51 (by decide) ?_
  refine k_iconst (v := 2) X dX7_init_53 (by decide) ?_
  refine k_callII (n := 2) (As := [.int 8, .int 2]) (st := [.ref q_7, .ref h0]) X [(cO8_iini q_7 0 0 0)] [(cO7_rrrnii h0 q_1 q_3 q_5 0 0), (cO8_iiri q_1 8 3 qc_2 0), (cAI g qc_2 24 (fun _ => 0)), (cO8_iiri q_3 12 3 qc_4 0), (cAI g qc_4 36 (fun _ => 0)), (cO8_iiri q_5 6 3 qc_6 0), (cAI g qc_6 18 (fun _ => 0))] [7] [0, 1, 2, 3, 4, 5, 6] (i_T_8_2 l g q_7) dX7_init_54 mw96 mw97 mw64 mw98 rfl yk_yX8_init_2 rfl (Nat.le_of_ble_eq_true rfl) (Nat.le_of_ble_eq_true rfl) (Nat.le_of_ble_eq_true rfl) (Nat.le_of_ble_eq_true rfl) (Nat.le_of_ble_eq_true rfl) rfl rfl (by decide) rfl (by decide) (by decide) ?_
  rintro w ⟨qc_8, rfl⟩
  refine k_ws [(cO7_rrrnii h0 q_1 q_3 q_5 0 0), (cO8_iiri q_1 8 3 qc_2 0), (cAI g qc_2 24 (fun _ => 0)), (cO8_iiri q_3 12 3 qc_4 0), (cAI g qc_4 36 (fun _ => 0)), (cO8_iiri q_5 6 3 qc_6 0), (cAI g qc_6 18 (fun _ => 0)), (cO8_iiri q_7 8 2 qc_8 0), (cAI g qc_8 16 (fun _ => 0))] rfl ?_
  refine k_wide 8 110 (Nat.le_of_ble_eq_true rfl) (Nat.le_of_ble_eq_true rfl) ?_
  refine k_putF (ci := 7) [(cO7_rrrrii h0 q_1 q_3 q_5 q_7 0 0), (cO8_iiri q_1 8 3 qc_2 0), (cAI g qc_2 24 (fun _ => 0)), (cO8_iiri q_3 12 3 qc_4 0), (cAI g qc_4 36 (fun _ => 0)), (cO8_iiri q_5 6 3 qc_6 0), (cAI g qc_6 18 (fun _ => 0)), (cO8_iiri q_7 8 2 qc_8 0), (cAI g qc_8 16 (fun _ => 0))] X hi inlX7 rfl tyX7_ok nmX7 3 (by decide) rfl rfl dX7_init_57 mw93 0 rfl rfl rfl (Nat.le_of_ble_eq_true rfl) rfl ?_
  refine k_aload_n X dX7_init_60 0 rfl ?_
  refine k_iconst (v := 0) X dX7_init_61 (by decide) ?_
  refine k_put (ci := 7) [(cO7_rrrrii h0 q_1 q_3 q_5 q_7 0 0), (cO8_iiri q_1 8 3 qc_2 0), (cAI g qc_2 24 (fun _ => 0)), (cO8_iiri q_3 12 3 qc_4 0), (cAI g qc_4 36 (fun _ => 0)), (cO8_iiri q_5 6 3 qc_6 0), (cAI g qc_6 18 (fun _ => 0)), (cO8_iiri q_7 8 2 qc_8 0), (cAI g qc_8 16 (fun _ => 0))] X inlX7 rfl tyX7_ok nmX7 4 (by decide) rfl dX7_init_62 mw94 0 rfl rfl rfl (Nat.le_of_ble_eq_true rfl) rfl ?_
  refine k_aload_n X dX7_init_65 0 rfl ?_
  refine k_iconst (v := 0) X dX7_init_66 (by decide) ?_
  refine k_put (ci := 7) [(cO7_rrrrii h0 q_1 q_3 q_5 q_7 0 0), (cO8_iiri q_1 8 3 qc_2 0), (cAI g qc_2 24 (fun _ => 0)), (cO8_iiri q_3 12 3 qc_4 0), (cAI g qc_4 36 (fun _ => 0)), (cO8_iiri q_5 6 3 qc_6 0), (cAI g qc_6 18 (fun _ => 0)), (cO8_iiri q_7 8 2 qc_8 0), (cAI g qc_8 16 (fun _ => 0))] X inlX7 rfl tyX7_ok nmX7 5 (by decide) rfl dX7_init_67 mw95 0 rfl rfl rfl (Nat.le_of_ble_eq_true rfl) rfl ?_
  exact k_vret X hr dX7_init_70 (Nat.le_of_ble_eq_true rfl) (Nat.le_of_ble_eq_true rfl) [0, 1, 2, 3, 4, 5, 6, 7, 8] (by decide) rfl rfl ⟨q_1, q_3, q_5, q_7, qc_2, qc_4, qc_6, qc_8, rfl⟩

theorem dX3_init_0 : decode cX3_init 0 = .ok (.aload_n 0, 1) := dk_42 rfl
theorem dX3_init_1 : decode cX3_init 1 = .ok (.invokespecial 1, 3) := dk_183 rfl rfl rfl rfl
theorem dX3_init_4 : decode cX3_init 4 = .ok (.aload_n 0, 1) := dk_42 rfl
theorem dX3_init_5 : decode cX3_init 5 = .ok (.new 7, 3) := dk_187 rfl rfl rfl rfl
theorem dX3_init_8 : decode cX3_init 8 = .ok (.dup, 1) := dk_89 rfl
theorem dX3_init_9 : decode cX3_init 9 = .ok (.invokespecial 9, 3) := dk_183 rfl rfl rfl rfl
theorem dX3_init_12 : decode cX3_init 12 = .ok (.putfield 10, 3) := dk_181 rfl rfl rfl rfl
theorem dX3_init_15 : decode cX3_init 15 = .ok (.aload_n 0, 1) := dk_42 rfl
theorem dX3_init_16 : decode cX3_init 16 = .ok (.new 16, 3) := dk_187 rfl rfl rfl rfl
theorem dX3_init_19 : decode cX3_init 19 = .ok (.dup, 1) := dk_89 rfl
theorem dX3_init_20 : decode cX3_init 20 = .ok (.iconst 1, 1) := dk_4 rfl
theorem dX3_init_21 : decode cX3_init 21 = .ok (.bipush 6, 2) := dk_16 rfl rfl (by decide)
theorem dX3_init_23 : decode cX3_init 23 = .ok (.invokespecial 18, 3) := dk_183 rfl rfl rfl rfl
theorem dX3_init_26 : decode cX3_init 26 = .ok (.putfield 21, 3) := dk_181 rfl rfl rfl rfl
theorem dX3_init_29 : decode cX3_init 29 = .ok (.aload_n 0, 1) := dk_42 rfl
theorem dX3_init_30 : decode cX3_init 30 = .ok (.new 16, 3) := dk_187 rfl rfl rfl rfl
theorem dX3_init_33 : decode cX3_init 33 = .ok (.dup, 1) := dk_89 rfl
theorem dX3_init_34 : decode cX3_init 34 = .ok (.iconst 4, 1) := dk_7 rfl
theorem dX3_init_35 : decode cX3_init 35 = .ok (.iconst 1, 1) := dk_4 rfl
theorem dX3_init_36 : decode cX3_init 36 = .ok (.invokespecial 18, 3) := dk_183 rfl rfl rfl rfl
theorem dX3_init_39 : decode cX3_init 39 = .ok (.putfield 25, 3) := dk_181 rfl rfl rfl rfl
theorem dX3_init_42 : decode cX3_init 42 = .ok (.aload_n 0, 1) := dk_42 rfl
theorem dX3_init_43 : decode cX3_init 43 = .ok (.new 16, 3) := dk_187 rfl rfl rfl rfl
theorem dX3_init_46 : decode cX3_init 46 = .ok (.dup, 1) := dk_89 rfl
theorem dX3_init_47 : decode cX3_init 47 = .ok (.bipush 8, 2) := dk_16 rfl rfl (by decide)
theorem dX3_init_49 : decode cX3_init 49 = .ok (.iconst 2, 1) := dk_5 rfl
theorem dX3_init_50 : decode cX3_init 50 = .ok (.invokespecial 18, 3) := dk_183 rfl rfl rfl rfl
theorem dX3_init_53 : decode cX3_init 53 = .ok (.putfield 28, 3) := dk_181 rfl rfl rfl rfl
theorem dX3_init_56 : decode cX3_init 56 = .ok (.aload_n 0, 1) := dk_42 rfl
theorem dX3_init_57 : decode cX3_init 57 = .ok (.new 16, 3) := dk_187 rfl rfl rfl rfl
theorem dX3_init_60 : decode cX3_init 60 = .ok (.dup, 1) := dk_89 rfl
theorem dX3_init_61 : decode cX3_init 61 = .ok (.iconst 4, 1) := dk_7 rfl
theorem dX3_init_62 : decode cX3_init 62 = .ok (.iconst 3, 1) := dk_6 rfl
theorem dX3_init_63 : decode cX3_init 63 = .ok (.invokespecial 18, 3) := dk_183 rfl rfl rfl rfl
theorem dX3_init_66 : decode cX3_init 66 = .ok (.putfield 31, 3) := dk_181 rfl rfl rfl rfl
theorem dX3_init_69 : decode cX3_init 69 = .ok (.aload_n 0, 1) := dk_42 rfl
theorem dX3_init_70 : decode cX3_init 70 = .ok (.new 16, 3) := dk_187 rfl rfl rfl rfl
theorem dX3_init_73 : decode cX3_init 73 = .ok (.dup, 1) := dk_89 rfl
theorem dX3_init_74 : decode cX3_init 74 = .ok (.iconst 1, 1) := dk_4 rfl
theorem dX3_init_75 : decode cX3_init 75 = .ok (.iconst 3, 1) := dk_6 rfl
theorem dX3_init_76 : decode cX3_init 76 = .ok (.invokespecial 18, 3) := dk_183 rfl rfl rfl rfl
theorem dX3_init_79 : decode cX3_init 79 = .ok (.putfield 34, 3) := dk_181 rfl rfl rfl rfl
theorem dX3_init_82 : decode cX3_init 82 = .ok (.aload_n 0, 1) := dk_42 rfl
theorem dX3_init_83 : decode cX3_init 83 = .ok (.new 16, 3) := dk_187 rfl rfl rfl rfl
theorem dX3_init_86 : decode cX3_init 86 = .ok (.dup, 1) := dk_89 rfl
theorem dX3_init_87 : decode cX3_init 87 = .ok (.bipush 6, 2) := dk_16 rfl rfl (by decide)
theorem dX3_init_89 : decode cX3_init 89 = .ok (.iconst 3, 1) := dk_6 rfl
theorem dX3_init_90 : decode cX3_init 90 = .ok (.invokespecial 18, 3) := dk_183 rfl rfl rfl rfl
theorem dX3_init_93 : decode cX3_init 93 = .ok (.putfield 37, 3) := dk_181 rfl rfl rfl rfl
theorem dX3_init_96 : decode cX3_init 96 = .ok (.aload_n 0, 1) := dk_42 rfl
theorem dX3_init_97 : decode cX3_init 97 = .ok (.new 16, 3) := by decide +kernel
theorem dX3_init_100 : decode cX3_init 100 = .ok (.dup, 1) := by decide +kernel
theorem dX3_init_101 : decode cX3_init 101 = .ok (.bipush 6, 2) := by decide +kernel
theorem dX3_init_103 : decode cX3_init 103 = .ok (.iconst 2, 1) := by decide +kernel
theorem dX3_init_104 : decode cX3_init 104 = .ok (.invokespecial 18, 3) := by decide +kernel
theorem dX3_init_107 : decode cX3_init 107 = .ok (.putfield 40, 3) := by decide +kernel
theorem dX3_init_110 : decode cX3_init 110 = .ok (.return_, 1) := by decide +kernel
set_option maxHeartbeats 4000000 in
set_option maxRecDepth 100000 in
theorem i_H (l : Launch) (g : Gx) (h0 : Nat) : cV l g yX3_init cX3_init 1 3 63 23 215 [.ref h0] [(cO3_nnnnnnnn h0 )] (fun w => ∃ xs xhn xht xhj xhm xhb xhs xhc xhnc xhtc xhjc xhmc xhbc xhsc xhcc xr xm xw xp xrc xmc xwc xpc, w = [(cO3_rrrrrrrr h0 xs xhn xht xhj xhm xhb xhs xhc), (cO7_rrrrii xs xr xm xw xp 0 0), (cO8_iiri xr 8 3 xrc 0), (cAI g xrc 24 (fun _ => 0)), (cO8_iiri xm 12 3 xmc 0), (cAI g xmc 36 (fun _ => 0)), (cO8_iiri xw 6 3 xwc 0), (cAI g xwc 18 (fun _ => 0)), (cO8_iiri xp 8 2 xpc 0), (cAI g xpc 16 (fun _ => 0)), (cO8_iiri xhn 1 6 xhnc 0), (cAI g xhnc 6 (fun _ => 0)), (cO8_iiri xht 4 1 xhtc 0), (cAI g xhtc 4 (fun _ => 0)), (cO8_iiri xhj 8 2 xhjc 0), (cAI g xhjc 16 (fun _ => 0)), (cO8_iiri xhm 4 3 xhmc 0), (cAI g xhmc 12 (fun _ => 0)), (cO8_iiri xhb 1 3 xhbc 0), (cAI g xhbc 3 (fun _ => 0)), (cO8_iiri xhs 6 3 xhsc 0), (cAI g xhsc 18 (fun _ => 0)), (cO8_iiri xhc 6 2 xhcc 0), (cAI g xhcc 12 (fun _ => 0))]) := by
  refine cV.of (by decide) (Nat.le_of_ble_eq_true rfl) ?_
  intro p e s m args below meth c A X hr hi
  refine k_lveq [(0, .ref h0)] rfl ?_
  refine k_aload_n X dX3_init_0 0 rfl ?_
  refine k_objInit X dX3_init_1 mw75 mw11 mw12 (Nat.le_of_ble_eq_true rfl) (Nat.le_of_ble_eq_true rfl) ?_
  refine k_aload_n X dX3_init_4 0 rfl ?_
  refine k_new (ci := 7) (fs := [.null, .null, .null, .null, .int 0, .int 0]) X inlX7 rfl tyX7_ok dX3_init_5 mw76 mw22 mw23 (fun j hj => by rcases (show j = 0 ∨ j = 1 ∨ j = 2 ∨ j = 3 ∨ j = 4 ∨ j = 5 by omega) with rfl | rfl | rfl | rfl | rfl | rfl <;> rfl) (Nat.le_of_ble_eq_true rfl) (Nat.le_of_ble_eq_true rfl) (fun q_1 => ?_)
  refine k_ws [(cO3_nnnnnnnn h0 ), (cO7_nnnnii q_1 0 0)] rfl ?_
  refine k_wide 1 6 (Nat.le_of_ble_eq_true rfl) (Nat.le_of_ble_eq_true rfl) ?_
  refine k_dup X dX3_init_8 rfl ?_
  refine k_callIN (n := 0) (host := RX10) (As := []) (st := [.ref q_1, .ref h0]) X [(cO7_nnnnii q_1 0 0)] [(cO3_nnnnnnnn h0 )] [1] [0] (i_S l g q_1) dX3_init_9 (by decide +kernel) mw86 mw23 mw87 rfl yk_yX7_init_0 rfl (Nat.le_of_ble_eq_true rfl) (Nat.le_of_ble_eq_true rfl) (Nat.le_of_ble_eq_true rfl) (Nat.le_of_ble_eq_true rfl) (Nat.le_of_ble_eq_true rfl) rfl rfl (by decide) rfl (by decide) (by decide) ?_
  rintro w ⟨xr_2, xm_3, xw_4, xp_5, xrc_6, xmc_7, xwc_8, xpc_9, rfl⟩
  refine k_ws [(cO3_nnnnnnnn h0 ), (cO7_rrrrii q_1 xr_2 xm_3 xw_4 xp_5 0 0), (cO8_iiri xr_2 8 3 xrc_6 0), (cAI g xrc_6 24 (fun _ => 0)), (cO8_iiri xm_3 12 3 xmc_7 0), (cAI g xmc_7 36 (fun _ => 0)), (cO8_iiri xw_4 6 3 xwc_8 0), (cAI g xwc_8 18 (fun _ => 0)), (cO8_iiri xp_5 8 2 xpc_9 0), (cAI g xpc_9 16 (fun _ => 0))] rfl ?_
  refine k_wide 9 116 (Nat.le_of_ble_eq_true rfl) (Nat.le_of_ble_eq_true rfl) ?_
  refine k_putF (ci := 3) [(cO3_rnnnnnnn h0 q_1), (cO7_rrrrii q_1 xr_2 xm_3 xw_4 xp_5 0 0), (cO8_iiri xr_2 8 3 xrc_6 0), (cAI g xrc_6 24 (fun _ => 0)), (cO8_iiri xm_3 12 3 xmc_7 0), (cAI g xmc_7 36 (fun _ => 0)), (cO8_iiri xw_4 6 3 xwc_8 0), (cAI g xwc_8 18 (fun _ => 0)), (cO8_iiri xp_5 8 2 xpc_9 0), (cAI g xpc_9 16 (fun _ => 0))] X hi inlX3 rfl tyX3_ok nmX3 0 (by decide) rfl rfl dX3_init_12 mw77 0 rfl rfl rfl (Nat.le_of_ble_eq_true rfl) rfl ?_
  refine k_aload_n X dX3_init_15 0 rfl ?_
  refine k_new (ci := 8) (fs := [.int 0, .int 0, .null, .int 0]) X inlX8 rfl tyX8_ok dX3_init_16 mw78 mw63 mw64 (fun j hj => by rcases (show j = 0 ∨ j = 1 ∨ j = 2 ∨ j = 3 by omega) with rfl | rfl | rfl | rfl <;> rfl) (Nat.le_of_ble_eq_true rfl) (Nat.le_of_ble_eq_true rfl) (fun q_10 => ?_)
  refine k_ws [(cO3_rnnnnnnn h0 q_1), (cO7_rrrrii q_1 xr_2 xm_3 xw_4 xp_5 0 0), (cO8_iiri xr_2 8 3 xrc_6 0), (cAI g xrc_6 24 (fun _ => 0)), (cO8_iiri xm_3 12 3 xmc_7 0), (cAI g xmc_7 36 (fun _ => 0)), (cO8_iiri xw_4 6 3 xwc_8 0), (cAI g xwc_8 18 (fun _ => 0)), (cO8_iiri xp_5 8 2 xpc_9 0), (cAI g xpc_9 16 (fun _ => 0)), (cO8_iini q_10 0 0 0)] rfl ?_
  refine k_wide 10 120 (Nat.le_of_ble_eq_true rfl) (Nat.le_of_ble_eq_true rfl) ?_
  refine k_dup X dX3_init_19 rfl ?_
  refine k_iconst (v := 1) X dX3_init_20 (by decide) ?_
  refine k_bipush (v := 6) X dX3_init_21 (by decide) ?_
  refine k_callII (n := 2) (As := [.int 1, .int 6]) (st := [.ref q_10, .ref h0]) X [(cO8_iini q_10 0 0 0)] [(cO3_rnnnnnnn h0 q_1), (cO7_rrrrii q_1 xr_2 xm_3 xw_4 xp_5 0 0), (cO8_iiri xr_2 8 3 xrc_6 0), (cAI g xrc_6 24 (fun _ => 0)), (cO8_iiri xm_3 12 3 xmc_7 0), (cAI g xmc_7 36 (fun _ => 0)), (cO8_iiri xw_4 6 3 xwc_8 0), (cAI g xwc_8 18 (fun _ => 0)), (cO8_iiri xp_5 8 2 xpc_9 0), (cAI g xpc_9 16 (fun _ => 0))] [10] [0, 1, 2, 3, 4, 5, 6, 7, 8, 9] (i_T_1_6 l g q_10) dX3_init_23 mw109 mw97 mw64 mw98 rfl yk_yX8_init_2 rfl (Nat.le_of_ble_eq_true rfl) (Nat.le_of_ble_eq_true rfl) (Nat.le_of_ble_eq_true rfl) (Nat.le_of_ble_eq_true rfl) (Nat.le_of_ble_eq_true rfl) rfl rfl (by decide) rfl (by decide) (by decide) ?_
  rintro w ⟨qc_11, rfl⟩
  refine k_ws [(cO3_rnnnnnnn h0 q_1), (cO7_rrrrii q_1 xr_2 xm_3 xw_4 xp_5 0 0), (cO8_iiri xr_2 8 3 xrc_6 0), (cAI g xrc_6 24 (fun _ => 0)), (cO8_iiri xm_3 12 3 xmc_7 0), (cAI g xmc_7 36 (fun _ => 0)), (cO8_iiri xw_4 6 3 xwc_8 0), (cAI g xwc_8 18 (fun _ => 0)), (cO8_iiri xp_5 8 2 xpc_9 0), (cAI g xpc_9 16 (fun _ => 0)), (cO8_iiri q_10 1 6 qc_11 0), (cAI g qc_11 6 (fun _ => 0))] rfl ?_
  refine k_wide 11 126 (Nat.le_of_ble_eq_true rfl) (Nat.le_of_ble_eq_true rfl) ?_
  refine k_putF (ci := 3) [(cO3_rrnnnnnn h0 q_1 q_10), (cO7_rrrrii q_1 xr_2 xm_3 xw_4 xp_5 0 0), (cO8_iiri xr_2 8 3 xrc_6 0), (cAI g xrc_6 24 (fun _ => 0)), (cO8_iiri xm_3 12 3 xmc_7 0), (cAI g xmc_7 36 (fun _ => 0)), (cO8_iiri xw_4 6 3 xwc_8 0), (cAI g xwc_8 18 (fun _ => 0)), (cO8_iiri xp_5 8 2 xpc_9 0), (cAI g xpc_9 16 (fun _ => 0)), (cO8_iiri q_10 1 6 qc_11 0), (cAI g qc_11 6 (fun _ => 0))] X hi inlX3 rfl tyX3_ok nmX3 1 (by decide) rfl rfl dX3_init_26 mw79 0 rfl rfl rfl (Nat.le_of_ble_eq_true rfl) rfl ?_
  refine k_aload_n X dX3_init_29 0 rfl ?_
  refine k_new (ci := 8) (fs := [.int 0, .int 0, .null, .int 0]) X inlX8 rfl tyX8_ok dX3_init_30 mw78 mw63 mw64 (fun j hj => by rcases (show j = 0 ∨ j = 1 ∨ j = 2 ∨ j = 3 by omega) with rfl | rfl | rfl | rfl <;> rfl) (Nat.le_of_ble_eq_true rfl) (Nat.le_of_ble_eq_true rfl) (fun q_12 => ?_)
  refine k_ws [(cO3_rrnnnnnn h0 q_1 q_10), (cO7_rrrrii q_1 xr_2 xm_3 xw_4 xp_5 0 0), (cO8_iiri xr_2 8 3 xrc_6 0), (cAI g xrc_6 24 (fun _ => 0)), (cO8_iiri xm_3 12 3 xmc_7 0), (cAI g xmc_7 36 (fun _ => 0)), (cO8_iiri xw_4 6 3 xwc_8 0), (cAI g xwc_8 18 (fun _ => 0)), (cO8_iiri xp_5 8 2 xpc_9 0), (cAI g xpc_9 16 (fun _ => 0)), (cO8_iiri q_10 1 6 qc_11 0), (cAI g qc_11 6 (fun _ => 0)), (cO8_iini q_12 0 0 0)] rfl ?_
  refine k_wide 12 130 (Nat.le_of_ble_eq_true rfl) (Nat.le_of_ble_eq_true rfl) ?_
  refine k_dup X dX3_init_33 rfl ?_
  refine k_iconst (v := 4) X dX3_init_34 (by decide) ?_
  refine k_iconst (v := 1) X dX3_init_35 (by decide) ?_
  refine k_callII (n := 2) (As := [.int 4, .int 1]) (st := [.ref q_12, .ref h0]) X [(cO8_iini q_12 0 0 0)] [(cO3_rrnnnnnn h0 q_1 q_10), (cO7_rrrrii q_1 xr_2 xm_3 xw_4 xp_5 0 0), (cO8_iiri xr_2 8 3 xrc_6 0), (cAI g xrc_6 24 (fun _ => 0)), (cO8_iiri xm_3 12 3 xmc_7 0), (cAI g xmc_7 36 (fun _ => 0)), (cO8_iiri xw_4 6 3 xwc_8 0), (cAI g xwc_8 18 (fun _ => 0)), (cO8_iiri xp_5 8 2 xpc_9 0), (cAI g xpc_9 16 (fun _ => 0)), (cO8_iiri q_10 1 6 qc_11 0), (cAI g qc_11 6 (fun _ => 0))] [12] [0, 1, 2, 3, 4, 5, 6, 7, 8, 9, 10, 11] (i_T_4_1 l g q_12) dX3_init_36 mw109 mw97 mw64 mw98 rfl yk_yX8_init_2 rfl (Nat.le_of_ble_eq_true rfl) (Nat.le_of_ble_eq_true rfl) (Nat.le_of_ble_eq_true rfl) (Nat.le_of_ble_eq_true rfl) (Nat.le_of_ble_eq_true rfl) rfl rfl (by decide +kernel) rfl (by decide +kernel) (by decide +kernel) ?_
  rintro w ⟨qc_13, rfl⟩
  refine k_ws [(cO3_rrnnnnnn h0 q_1 q_10), (cO7_rrrrii q_1 xr_2 xm_3 xw_4 xp_5 0 0), (cO8_iiri xr_2 8 3 xrc_6 0), (cAI g xrc_6 24 (fun _ => 0)), (cO8_iiri xm_3 12 3 xmc_7 0), (cAI g xmc_7 36 (fun _ => 0)), (cO8_iiri xw_4 6 3 xwc_8 0), (cAI g xwc_8 18 (fun _ => 0)), (cO8_iiri xp_5 8 2 xpc_9 0), (cAI g xpc_9 16 (fun _ => 0)), (cO8_iiri q_10 1 6 qc_11 0), (cAI g qc_11 6 (fun _ => 0)), (cO8_iiri q_12 4 1 qc_13 0), (cAI g qc_13 4 (fun _ => 0))] rfl ?_
  refine k_wide 13 134 (Nat.le_of_ble_eq_true rfl) (Nat.le_of_ble_eq_true rfl) ?_
  refine k_putF (ci := 3) [(cO3_rrrnnnnn h0 q_1 q_10 q_12), (cO7_rrrrii q_1 xr_2 xm_3 xw_4 xp_5 0 0), (cO8_iiri xr_2 8 3 xrc_6 0), (cAI g xrc_6 24 (fun _ => 0)), (cO8_iiri xm_3 12 3 xmc_7 0), (cAI g xmc_7 36 (fun _ => 0)), (cO8_iiri xw_4 6 3 xwc_8 0), (cAI g xwc_8 18 (fun _ => 0)), (cO8_iiri xp_5 8 2 xpc_9 0), (cAI g xpc_9 16 (fun _ => 0)), (cO8_iiri q_10 1 6 qc_11 0), (cAI g qc_11 6 (fun _ => 0)), (cO8_iiri q_12 4 1 qc_13 0), (cAI g qc_13 4 (fun _ => 0))] X hi inlX3 rfl tyX3_ok nmX3 2 (by decide) rfl rfl dX3_init_39 mw80 0 rfl rfl rfl (Nat.le_of_ble_eq_true rfl) rfl ?_
  refine k_aload_n X dX3_init_42 0 rfl ?_
  refine k_new (ci := 8) (fs := [.int 0, .int 0, .null, .int 0]) X inlX8 rfl tyX8_ok dX3_init_43 mw78 mw63 mw64 (fun j hj => by rcases (show j = 0 ∨ j = 1 ∨ j = 2 ∨ j = 3 by omega) with rfl | rfl | rfl | rfl <;> rfl) (Nat.le_of_ble_eq_true rfl) (Nat.le_of_ble_eq_true rfl) (fun q_14 => ?_)
  refine k_ws [(cO3_rrrnnnnn h0 q_1 q_10 q_12), (cO7_rrrrii q_1 xr_2 xm_3 xw_4 xp_5 0 0), (cO8_iiri xr_2 8 3 xrc_6 0), (cAI g xrc_6 24 (fun _ => 0)), (cO8_iiri xm_3 12 3 xmc_7 0), (cAI g xmc_7 36 (fun _ => 0)), (cO8_iiri xw_4 6 3 xwc_8 0), (cAI g xwc_8 18 (fun _ => 0)), (cO8_iiri xp_5 8 2 xpc_9 0), (cAI g xpc_9 16 (fun _ => 0)), (cO8_iiri q_10 1 6 qc_11 0), (cAI g qc_11 6 (fun _ => 0)), (cO8_iiri q_12 4 1 qc_13 0), (cAI g qc_13 4 (fun _ => 0)), (cO8_iini q_14 0 0 0)] rfl ?_
  refine k_wide 14 138 (Nat.le_of_ble_eq_true rfl) (Nat.le_of_ble_eq_true rfl) ?_
  refine k_dup X dX3_init_46 rfl ?_
  refine k_bipush (v := 8) X dX3_init_47 (by decide) ?_
  refine k_iconst (v := 2) X dX3_init_49 (by decide) ?_
  refine k_callII (n := 2) (As := [.int 8, .int 2]) (st := [.ref q_14, .ref h0]) X [(cO8_iini q_14 0 0 0)] [(cO3_rrrnnnnn h0 q_1 q_10 q_12), (cO7_rrrrii q_1 xr_2 xm_3 xw_4 xp_5 0 0), (cO8_iiri xr_2 8 3 xrc_6 0), (cAI g xrc_6 24 (fun _ => 0)), (cO8_iiri xm_3 12 3 xmc_7 0), (cAI g xmc_7 36 (fun _ => 0)), (cO8_iiri xw_4 6 3 xwc_8 0), (cAI g xwc_8 18 (fun _ => 0)), (cO8_iiri xp_5 8 2 xpc_9 0), (cAI g xpc_9 16 (fun _ => 0)), (cO8_iiri q_10 1 6 qc_11 0), (cAI g qc_11 6 (fun _ => 0)), (cO8_iiri q_12 4 1 qc_13 0), (cAI g qc_13 4 (fun _ => 0))] [14] [0, 1, 2, 3, 4, 5, 6, 7, 8, 9, 10, 11, 12, 13] (i_T_8_2 l g q_14) dX3_init_50 mw109 mw97 mw64 mw98 rfl yk_yX8_init_2 rfl (Nat.le_of_ble_eq_true rfl) (Nat.le_of_ble_eq_true rfl) (Nat.le_of_ble_eq_true rfl) (Nat.le_of_ble_eq_true rfl) (Nat.le_of_ble_eq_true rfl) rfl rfl (by decide +kernel) rfl (by decide +kernel) (by decide +kernel) ?_
  rintro w ⟨qc_15, rfl⟩
  refine k_ws [(cO3_rrrnnnnn h0 q_1 q_10 q_12), (cO7_rrrrii q_1 xr_2 xm_3 xw_4 xp_5 0 0), (cO8_iiri xr_2 8 3 xrc_6 0), (cAI g xrc_6 24 (fun _ => 0)), (cO8_iiri xm_3 12 3 xmc_7 0), (cAI g xmc_7 36 (fun _ => 0)), (cO8_iiri xw_4 6 3 xwc_8 0), (cAI g xwc_8 18 (fun _ => 0)), (cO8_iiri xp_5 8 2 xpc_9 0), (cAI g xpc_9 16 (fun _ => 0)), (cO8_iiri q_10 1 6 qc_11 0), (cAI g qc_11 6 (fun _ => 0)), (cO8_iiri q_12 4 1 qc_13 0), (cAI g qc_13 4 (fun _ => 0)), (cO8_iiri q_14 8 2 qc_15 0), (cAI g qc_15 16 (fun _ => 0))] rfl ?_
  refine k_wide 15 154 (Nat.le_of_ble_eq_true rfl) (Nat.le_of_ble_eq_true rfl) ?_
  refine k_putF (ci := 3) [(cO3_rrrrnnnn h0 q_1 q_10 q_12 q_14), (cO7_rrrrii q_1 xr_2 xm_3 xw_4 xp_5 0 0), (cO8_iiri xr_2 8 3 xrc_6 0), (cAI g xrc_6 24 (fun _ => 0)), (cO8_iiri xm_3 12 3 xmc_7 0), (cAI g xmc_7 36 (fun _ => 0)), (cO8_iiri xw_4 6 3 xwc_8 0), (cAI g xwc_8 18 (fun _ => 0)), (cO8_iiri xp_5 8 2 xpc_9 0), (cAI g xpc_9 16 (fun _ => 0)), (cO8_iiri q_10 1 6 qc_11 0), (cAI g qc_11 6 (fun _ => 0)), (cO8_iiri q_12 4 1 qc_13 0), (cAI g qc_13 4 (fun _ => 0)), (cO8_iiri q_14 8 2 qc_15 0), (cAI g qc_15 16 (fun _ => 0))] X hi inlX3 rfl tyX3_ok nmX3 3 (by decide) rfl rfl dX3_init_53 mw81 0 rfl rfl rfl (Nat.le_of_ble_eq_true rfl) rfl ?_
  refine k_aload_n X dX3_init_56 0 rfl ?_
  refine k_new (ci := 8) (fs := [.int 0, .int 0, .null, .int 0]) X inlX8 rfl tyX8_ok dX3_init_57 mw78 mw63 mw64 (fun j hj => by rcases (show j = 0 ∨ j = 1 ∨ j = 2 ∨ j = 3 by omega) with rfl | rfl | rfl | rfl <;> rfl) (Nat.le_of_ble_eq_true rfl) (Nat.le_of_ble_eq_true rfl) (fun q_16 => ?_)
  refine k_ws [(cO3_rrrrnnnn h0 q_1 q_10 q_12 q_14), (cO7_rrrrii q_1 xr_2 xm_3 xw_4 xp_5 0 0), (cO8_iiri xr_2 8 3 xrc_6 0), (cAI g xrc_6 24 (fun _ => 0)), (cO8_iiri xm_3 12 3 xmc_7 0), (cAI g xmc_7 36 (fun _ => 0)), (cO8_iiri xw_4 6 3 xwc_8 0), (cAI g xwc_8 18 (fun _ => 0)), (cO8_iiri xp_5 8 2 xpc_9 0), (cAI g xpc_9 16 (fun _ => 0)), (cO8_iiri q_10 1 6 qc_11 0), (cAI g qc_11 6 (fun _ => 0)), (cO8_iiri q_12 4 1 qc_13 0), (cAI g qc_13 4 (fun _ => 0)), (cO8_iiri q_14 8 2 qc_15 0), (cAI g qc_15 16 (fun _ => 0)), (cO8_iini q_16 0 0 0)] rfl ?_
  refine k_wide 16 158 (Nat.le_of_ble_eq_true rfl) (Nat.le_of_ble_eq_true rfl) ?_
  refine k_dup X dX3_init_60 rfl ?_
  refine k_iconst (v := 4) X dX3_init_61 (by decide) ?_
  refine k_iconst (v := 3) X dX3_init_62 (by decide) ?_
  refine k_callII (n := 2) (As := [.int 4, .int 3]) (st := [.ref q_16, .ref h0]) X [(cO8_iini q_16 0 0 0)] [(cO3_rrrrnnnn h0 q_1 q_10 q_12 q_14), (cO7_rrrrii q_1 xr_2 xm_3 xw_4 xp_5 0 0), (cO8_iiri xr_2 8 3 xrc_6 0), (cAI g xrc_6 24 (fun _ => 0)), (cO8_iiri xm_3 12 3 xmc_7 0), (cAI g xmc_7 36 (fun _ => 0)), (cO8_iiri xw_4 6 3 xwc_8 0), (cAI g xwc_8 18 (fun _ => 0)), (cO8_iiri xp_5 8 2 xpc_9 0), (cAI g xpc_9 16 (fun _ => 0)), (cO8_iiri q_10 1 6 qc_11 0), (cAI g qc_11 6 (fun _ => 0)), (cO8_iiri q_12 4 1 qc_13 0), (cAI g qc_13 4 (fun _ => 0)), (cO8_iiri q_14 8 2 qc_15 0), (cAI g qc_15 16 (fun _ => 0))] [16] [0, 1, 2, 3, 4, 5, 6, 7, 8, 9, 10, 11, 12, 13, 14, 15] (i_T_4_3 l g q_16) dX3_init_63 mw109 mw97 mw64 mw98 rfl yk_yX8_init_2 rfl (Nat.le_of_ble_eq_true rfl) (Nat.le_of_ble_eq_true rfl) (Nat.le_of_ble_eq_true rfl) (Nat.le_of_ble_eq_true rfl) (Nat.le_of_ble_eq_true rfl) rfl rfl (by decide +kernel) rfl (by decide +kernel) (by decide +kernel) ?_
  rintro w ⟨qc_17, rfl⟩
  refine k_ws [(cO3_rrrrnnnn h0 q_1 q_10 q_12 q_14), (cO7_rrrrii q_1 xr_2 xm_3 xw_4 xp_5 0 0), (cO8_iiri xr_2 8 3 xrc_6 0), (cAI g xrc_6 24 (fun _ => 0)), (cO8_iiri xm_3 12 3 xmc_7 0), (cAI g xmc_7 36 (fun _ => 0)), (cO8_iiri xw_4 6 3 xwc_8 0), (cAI g xwc_8 18 (fun _ => 0)), (cO8_iiri xp_5 8 2 xpc_9 0), (cAI g xpc_9 16 (fun _ => 0)), (cO8_iiri q_10 1 6 qc_11 0), (cAI g qc_11 6 (fun _ => 0)), (cO8_iiri q_12 4 1 qc_13 0), (cAI g qc_13 4 (fun _ => 0)), (cO8_iiri q_14 8 2 qc_15 0), (cAI g qc_15 16 (fun _ => 0)), (cO8_iiri q_16 4 3 qc_17 0), (cAI g qc_17 12 (fun _ => 0))] rfl ?_
  refine k_wide 17 170 (Nat.le_of_ble_eq_true rfl) (Nat.le_of_ble_eq_true rfl) ?_
  refine k_putF (ci := 3) [(cO3_rrrrrnnn h0 q_1 q_10 q_12 q_14 q_16), (cO7_rrrrii q_1 xr_2 xm_3 xw_4 xp_5 0 0), (cO8_iiri xr_2 8 3 xrc_6 0), (cAI g xrc_6 24 (fun _ => 0)), (cO8_iiri xm_3 12 3 xmc_7 0), (cAI g xmc_7 36 (fun _ => 0)), (cO8_iiri xw_4 6 3 xwc_8 0), (cAI g xwc_8 18 (fun _ => 0)), (cO8_iiri xp_5 8 2 xpc_9 0), (cAI g xpc_9 16 (fun _ => 0)), (cO8_iiri q_10 1 6 qc_11 0), (cAI g qc_11 6 (fun _ => 0)), (cO8_iiri q_12 4 1 qc_13 0), (cAI g qc_13 4 (fun _ => 0)), (cO8_iiri q_14 8 2 qc_15 0), (cAI g qc_15 16 (fun _ => 0)), (cO8_iiri q_16 4 3 qc_17 0), (cAI g qc_17 12 (fun _ => 0))] X hi inlX3 rfl tyX3_ok nmX3 4 (by decide) rfl rfl dX3_init_66 mw82 0 rfl rfl rfl (Nat.le_of_ble_eq_true rfl) rfl ?_
  refine k_aload_n X dX3_init_69 0 rfl ?_
  refine k_new (ci := 8) (fs := [.int 0, .int 0, .null, .int 0]) X inlX8 rfl tyX8_ok dX3_init_70 mw78 mw63 mw64 (fun j hj => by rcases (show j = 0 ∨ j = 1 ∨ j = 2 ∨ j = 3 by omega) with rfl | rfl | rfl | rfl <;> rfl) (Nat.le_of_ble_eq_true rfl) (Nat.le_of_ble_eq_true rfl) (fun q_18 => ?_)
  refine k_ws [(cO3_rrrrrnnn h0 q_1 q_10 q_12 q_14 q_16), (cO7_rrrrii q_1 xr_2 xm_3 xw_4 xp_5 0 0), (cO8_iiri xr_2 8 3 xrc_6 0), (cAI g xrc_6 24 (fun _ => 0)), (cO8_iiri xm_3 12 3 xmc_7 0), (cAI g xmc_7 36 (fun _ => 0)), (cO8_iiri xw_4 6 3 xwc_8 0), (cAI g xwc_8 18 (fun _ => 0)), (cO8_iiri xp_5 8 2 xpc_9 0), (cAI g xpc_9 16 (fun _ => 0)), (cO8_iiri q_10 1 6 qc_11 0), (cAI g qc_11 6 (fun _ => 0)), (cO8_iiri q_12 4 1 qc_13 0), (cAI g qc_13 4 (fun _ => 0)), (cO8_iiri q_14 8 2 qc_15 0), (cAI g qc_15 16 (fun _ => 0)), (cO8_iiri q_16 4 3 qc_17 0), (cAI g qc_17 12 (fun _ => 0)), (cO8_iini q_18 0 0 0)] rfl ?_
  refine k_wide 18 174 (Nat.le_of_ble_eq_true rfl) (Nat.le_of_ble_eq_true rfl) ?_
  refine k_dup X dX3_init_73 rfl ?_
  refine k_iconst (v := 1) X dX3_init_74 (by decide) ?_
  refine k_iconst (v := 3) X dX3_init_75 (by decide) ?_
  refine k_callII (n := 2) (As := [.int 1, .int 3]) (st := [.ref q_18, .ref h0]) X [(cO8_iini q_18 0 0 0)] [(cO3_rrrrrnnn h0 q_1 q_10 q_12 q_14 q_16), (cO7_rrrrii q_1 xr_2 xm_3 xw_4 xp_5 0 0), (cO8_iiri xr_2 8 3 xrc_6 0), (cAI g xrc_6 24 (fun _ => 0)), (cO8_iiri xm_3 12 3 xmc_7 0), (cAI g xmc_7 36 (fun _ => 0)), (cO8_iiri xw_4 6 3 xwc_8 0), (cAI g xwc_8 18 (fun _ => 0)), (cO8_iiri xp_5 8 2 xpc_9 0), (cAI g xpc_9 16 (fun _ => 0)), (cO8_iiri q_10 1 6 qc_11 0), (cAI g qc_11 6 (fun _ => 0)), (cO8_iiri q_12 4 1 qc_13 0), (cAI g qc_13 4 (fun _ => 0)), (cO8_iiri q_14 8 2 qc_15 0), (cAI g qc_15 16 (fun _ => 0)), (cO8_iiri q_16 4 3 qc_17 0), (cAI g qc_17 12 (fun _ => 0))] [18] [0, 1, 2, 3, 4, 5, 6, 7, 8, 9, 10, 11, 12, 13, 14, 15, 16, 17] (i_T_1_3 l g q_18) dX3_init_76 mw109 mw97 mw64 mw98 rfl yk_yX8_init_2 rfl (Nat.le_of_ble_eq_true rfl) (Nat.le_of_ble_eq_true rfl) (Nat.le_of_ble_eq_true rfl) (Nat.le_of_ble_eq_true rfl) (Nat.le_of_ble_eq_true rfl) rfl rfl (by decide +kernel) rfl (by decide +kernel) (by decide +kernel) ?_
  rintro w ⟨qc_19, rfl⟩
  refine k_ws [(cO3_rrrrrnnn h0 q_1 q_10 q_12 q_14 q_16), (cO7_rrrrii q_1 xr_2 xm_3 xw_4 xp_5 0 0), (cO8_iiri xr_2 8 3 xrc_6 0), (cAI g xrc_6 24 (fun _ => 0)), (cO8_iiri xm_3 12 3 xmc_7 0), (cAI g xmc_7 36 (fun _ => 0)), (cO8_iiri xw_4 6 3 xwc_8 0), (cAI g xwc_8 18 (fun _ => 0)), (cO8_iiri xp_5 8 2 xpc_9 0), (cAI g xpc_9 16 (fun _ => 0)), (cO8_iiri q_10 1 6 qc_11 0), (cAI g qc_11 6 (fun _ => 0)), (cO8_iiri q_12 4 1 qc_13 0), (cAI g qc_13 4 (fun _ => 0)), (cO8_iiri q_14 8 2 qc_15 0), (cAI g qc_15 16 (fun _ => 0)), (cO8_iiri q_16 4 3 qc_17 0), (cAI g qc_17 12 (fun _ => 0)), (cO8_iiri q_18 1 3 qc_19 0), (cAI g qc_19 3 (fun _ => 0))] rfl ?_
  refine k_wide 19 177 (Nat.le_of_ble_eq_true rfl) (Nat.le_of_ble_eq_true rfl) ?_
  refine k_putF (ci := 3) [(cO3_rrrrrrnn h0 q_1 q_10 q_12 q_14 q_16 q_18), (cO7_rrrrii q_1 xr_2 xm_3 xw_4 xp_5 0 0), (cO8_iiri xr_2 8 3 xrc_6 0), (cAI g xrc_6 24 (fun _ => 0)), (cO8_iiri xm_3 12 3 xmc_7 0), (cAI g xmc_7 36 (fun _ => 0)), (cO8_iiri xw_4 6 3 xwc_8 0), (cAI g xwc_8 18 (fun _ => 0)), (cO8_iiri xp_5 8 2 xpc_9 0), (cAI g xpc_9 16 (fun _ => 0)), (cO8_iiri q_10 1 6 qc_11 0), (cAI g qc_11 6 (fun _ => 0)), (cO8_iiri q_12 4 1 qc_13 0), (cAI g qc_13 4 (fun _ => 0)), (cO8_iiri q_14 8 2 qc_15 0), (cAI g qc_15 16 (fun _ => 0)), (cO8_iiri q_16 4 3 qc_17 0), (cAI g qc_17 12 (fun _ => 0)), (cO8_iiri q_18 1 3 qc_19 0), (cAI g qc_19 3 (fun _ => 0))] X hi inlX3 rfl tyX3_ok nmX3 5 (by decide) rfl rfl dX3_init_79 mw83 0 rfl rfl rfl (Nat.le_of_ble_eq_true rfl) rfl ?_
  refine k_aload_n X dX3_init_82 0 rfl ?_
  refine k_new (ci := 8) (fs := [.int 0, .int 0, .null, .int 0]) X inlX8 rfl tyX8_ok dX3_init_83 mw78 mw63 mw64 (fun j hj => by rcases (show j = 0 ∨ j = 1 ∨ j = 2 ∨ j = 3 by omega) with rfl | rfl | rfl | rfl <;> rfl) (Nat.le_of_ble_eq_true rfl) (Nat.le_of_ble_eq_true rfl) (fun q_20 => ?_)
  refine k_ws [(cO3_rrrrrrnn h0 q_1 q_10 q_12 q_14 q_16 q_18), (cO7_rrrrii q_1 xr_2 xm_3 xw_4 xp_5 0 0), (cO8_iiri xr_2 8 3 xrc_6 0), (cAI g xrc_6 24 (fun _ => 0)), (cO8_iiri xm_3 12 3 xmc_7 0), (cAI g xmc_7 36 (fun _ => 0)), (cO8_iiri xw_4 6 3 xwc_8 0), (cAI g xwc_8 18 (fun _ => 0)), (cO8_iiri xp_5 8 2 xpc_9 0), (cAI g xpc_9 16 (fun _ => 0)), (cO8_iiri q_10 1 6 qc_11 0), (cAI g qc_11 6 (fun _ => 0)), (cO8_iiri q_12 4 1 qc_13 0), (cAI g qc_13 4 (fun _ => 0)), (cO8_iiri q_14 8 2 qc_15 0), (cAI g qc_15 16 (fun _ => 0)), (cO8_iiri q_16 4 3 qc_17 0), (cAI g qc_17 12 (fun _ => 0)), (cO8_iiri q_18 1 3 qc_19 0), (cAI g qc_19 3 (fun _ => 0)), (cO8_iini q_20 0 0 0)] rfl ?_
  refine k_wide 20 181 (Nat.le_of_ble_eq_true rfl) (Nat.le_of_ble_eq_true rfl) ?_
  refine k_dup X dX3_init_86 rfl ?_
  refine k_bipush (v := 6) X dX3_init_87 (by decide) ?_
  refine k_iconst (v := 3) X dX3_init_89 (by decide) ?_
  refine k_callII (n := 2) (As := [.int 6, .int 3]) (st := [.ref q_20, .ref h0]) X [(cO8_iini q_20 0 0 0)] [(cO3_rrrrrrnn h0 q_1 q_10 q_12 q_14 q_16 q_18), (cO7_rrrrii q_1 xr_2 xm_3 xw_4 xp_5 0 0), (cO8_iiri xr_2 8 3 xrc_6 0), (cAI g xrc_6 24 (fun _ => 0)), (cO8_iiri xm_3 12 3 xmc_7 0), (cAI g xmc_7 36 (fun _ => 0)), (cO8_iiri xw_4 6 3 xwc_8 0), (cAI g xwc_8 18 (fun _ => 0)), (cO8_iiri xp_5 8 2 xpc_9 0), (cAI g xpc_9 16 (fun _ => 0)), (cO8_iiri q_10 1 6 qc_11 0), (cAI g qc_11 6 (fun _ => 0)), (cO8_iiri q_12 4 1 qc_13 0), (cAI g qc_13 4 (fun _ => 0)), (cO8_iiri q_14 8 2 qc_15 0), (cAI g qc_15 16 (fun _ => 0)), (cO8_iiri q_16 4 3 qc_17 0), (cAI g qc_17 12 (fun _ => 0)), (cO8_iiri q_18 1 3 qc_19 0), (cAI g qc_19 3 (fun _ => 0))] [20] [0, 1, 2, 3, 4, 5, 6, 7, 8, 9, 10, 11, 12, 13, 14, 15, 16, 17, 18, 19] (i_T_6_3 l g q_20) dX3_init_90 mw109 mw97 mw64 mw98 rfl yk_yX8_init_2 rfl (Nat.le_of_ble_eq_true rfl) (Nat.le_of_ble_eq_true rfl) (Nat.le_of_ble_eq_true rfl) (Nat.le_of_ble_eq_true rfl) (Nat.le_of_ble_eq_true rfl) rfl rfl (by decide +kernel) rfl (by decide +kernel) (by decide +kernel) ?_
  rintro w ⟨qc_21, rfl⟩
  refine k_ws [(cO3_rrrrrrnn h0 q_1 q_10 q_12 q_14 q_16 q_18), (cO7_rrrrii q_1 xr_2 xm_3 xw_4 xp_5 0 0), (cO8_iiri xr_2 8 3 xrc_6 0), (cAI g xrc_6 24 (fun _ => 0)), (cO8_iiri xm_3 12 3 xmc_7 0), (cAI g xmc_7 36 (fun _ => 0)), (cO8_iiri xw_4 6 3 xwc_8 0), (cAI g xwc_8 18 (fun _ => 0)), (cO8_iiri xp_5 8 2 xpc_9 0), (cAI g xpc_9 16 (fun _ => 0)), (cO8_iiri q_10 1 6 qc_11 0), (cAI g qc_11 6 (fun _ => 0)), (cO8_iiri q_12 4 1 qc_13 0), (cAI g qc_13 4 (fun _ => 0)), (cO8_iiri q_14 8 2 qc_15 0), (cAI g qc_15 16 (fun _ => 0)), (cO8_iiri q_16 4 3 qc_17 0), (cAI g qc_17 12 (fun _ => 0)), (cO8_iiri q_18 1 3 qc_19 0), (cAI g qc_19 3 (fun _ => 0)), (cO8_iiri q_20 6 3 qc_21 0), (cAI g qc_21 18 (fun _ => 0))] rfl ?_
  refine k_wide 21 199 (Nat.le_of_ble_eq_true rfl) (Nat.le_of_ble_eq_true rfl) ?_
  refine k_putF (ci := 3) [(cO3_rrrrrrrn h0 q_1 q_10 q_12 q_14 q_16 q_18 q_20), (cO7_rrrrii q_1 xr_2 xm_3 xw_4 xp_5 0 0), (cO8_iiri xr_2 8 3 xrc_6 0), (cAI g xrc_6 24 (fun _ => 0)), (cO8_iiri xm_3 12 3 xmc_7 0), (cAI g xmc_7 36 (fun _ => 0)), (cO8_iiri xw_4 6 3 xwc_8 0), (cAI g xwc_8 18 (fun _ => 0)), (cO8_iiri xp_5 8 2 xpc_9 0), (cAI g xpc_9 16 (fun _ => 0)), (cO8_iiri q_10 1 6 qc_11 0), (cAI g qc_11 6 (fun _ => 0)), (cO8_iiri q_12 4 1 qc_13 0), (cAI g qc_13 4 (fun _ => 0)), (cO8_iiri q_14 8 2 qc_15 0), (cAI g qc_15 16 (fun _ => 0)), (cO8_iiri q_16 4 3 qc_17 0), (cAI g qc_17 12 (fun _ => 0)), (cO8_iiri q_18 1 3 qc_19 0), (cAI g qc_19 3 (fun _ => 0)), (cO8_iiri q_20 6 3 qc_21 0), (cAI g qc_21 18 (fun _ => 0))] X hi inlX3 rfl tyX3_ok nmX3 6 (by decide) rfl rfl dX3_init_93 mw84 0 rfl rfl rfl (Nat.le_of_ble_eq_true rfl) rfl ?_
  refine k_aload_n X dX3_init_96 0 rfl ?_
  refine k_new (ci := 8) (fs := [.int 0, .int 0, .null, .int 0]) X inlX8 rfl tyX8_ok dX3_init_97 mw78 mw63 mw64 (fun j hj => by rcases (show j = 0 ∨ j = 1 ∨ j = 2 ∨ j = 3 by omega) with rfl | rfl | rfl | rfl <;> rfl) (Nat.le_of_ble_eq_true rfl) (Nat.le_of_ble_eq_true rfl) (fun q_22 => ?_)
  refine k_ws [(cO3_rrrrrrrn h0 q_1 q_10 q_12 q_14 q_16 q_18 q_20), (cO7_rrrrii q_1 xr_2 xm_3 xw_4 xp_5 0 0), (cO8_iiri xr_2 8 3 xrc_6 0), (cAI g xrc_6 24 (fun _ => 0)), (cO8_iiri xm_3 12 3 xmc_7 0), (cAI g xmc_7 36 (fun _ => 0)), (cO8_iiri xw_4 6 3 xwc_8 0), (cAI g xwc_8 18 (fun _ => 0)), (cO8_iiri xp_5 8 2 xpc_9 0), (cAI g xpc_9 16 (fun _ => 0)), (cO8_iiri q_10 1 6 qc_11 0), (cAI g qc_11 6 (fun _ => 0)), (cO8_iiri q_12 4 1 qc_13 0), (cAI g qc_13 4 (fun _ => 0)), (cO8_iiri q_14 8 2 qc_15 0), (cAI g qc_15 16 (fun _ => 0)), (cO8_iiri q_16 4 3 qc_17 0), (cAI g qc_17 12 (fun _ => 0)), (cO8_iiri q_18 1 3 qc_19 0), (cAI g qc_19 3 (fun _ => 0)), (cO8_iiri q_20 6 3 qc_21 0), (cAI g qc_21 18 (fun _ => 0)), (cO8_iini q_22 0 0 0)] rfl ?_
  refine k_wide 22 203 (Nat.le_of_ble_eq_true rfl) (Nat.le_of_ble_eq_true rfl) ?_
  refine k_dup X dX3_init_100 rfl ?_
  refine k_bipush (v := 6) X dX3_init_101 (by decide) ?_
  refine k_iconst (v := 2) X dX3_init_103 (by decide) ?_
  refine k_callII (n := 2) (As := [.int 6, .int 2]) (st := [.ref q_22, .ref h0]) X [(cO8_iini q_22 0 0 0)] [(cO3_rrrrrrrn h0 q_1 q_10 q_12 q_14 q_16 q_18 q_20), (cO7_rrrrii q_1 xr_2 xm_3 xw_4 xp_5 0 0), (cO8_iiri xr_2 8 3 xrc_6 0), (cAI g xrc_6 24 (fun _ => 0)), (cO8_iiri xm_3 12 3 xmc_7 0), (cAI g xmc_7 36 (fun _ => 0)), (cO8_iiri xw_4 6 3 xwc_8 0), (cAI g xwc_8 18 (fun _ => 0)), (cO8_iiri xp_5 8 2 xpc_9 0), (cAI g xpc_9 16 (fun _ => 0)), (cO8_iiri q_10 1 6 qc_11 0), (cAI g qc_11 6 (fun _ => 0)), (cO8_iiri q_12 4 1 qc_13 0), (cAI g qc_13 4 (fun _ => 0)), (cO8_iiri q_14 8 2 qc_15 0), (cAI g qc_15 16 (fun _ => 0)), (cO8_iiri q_16 4 3 qc_17 0), (cAI g qc_17 12 (fun _ => 0)), (cO8_iiri q_18 1 3 qc_19 0), (cAI g qc_19 3 (fun _ => 0)), (cO8_iiri q_20 6 3 qc_21 0), (cAI g qc_21 18 (fun _ => 0))] [22] [0, 1, 2, 3, 4, 5, 6, 7, 8, 9, 10, 11, 12, 13, 14, 15, 16, 17, 18, 19, 20, 21] (i_T_6_2 l g q_22) dX3_init_104 mw109 mw97 mw64 mw98 rfl yk_yX8_init_2 rfl (Nat.le_of_ble_eq_true rfl) (Nat.le_of_ble_eq_true rfl) (Nat.le_of_ble_eq_true rfl) (Nat.le_of_ble_eq_true rfl) (Nat.le_of_ble_eq_true rfl) rfl rfl (by decide +kernel) rfl (by decide +kernel) (by decide +kernel) ?_
  rintro w ⟨qc_23, rfl⟩
  refine k_ws [(cO3_rrrrrrrn h0 q_1 q_10 q_12 q_14 q_16 q_18 q_20), (cO7_rrrrii q_1 xr_2 xm_3 xw_4 xp_5 0 0), (cO8_iiri xr_2 8 3 xrc_6 0), (cAI g xrc_6 24 (fun _ => 0)), (cO8_iiri xm_3 12 3 xmc_7 0), (cAI g xmc_7 36 (fun _ => 0)), (cO8_iiri xw_4 6 3 xwc_8 0), (cAI g xwc_8 18 (fun _ => 0)), (cO8_iiri xp_5 8 2 xpc_9 0), (cAI g xpc_9 16 (fun _ => 0)), (cO8_iiri q_10 1 6 qc_11 0), (cAI g qc_11 6 (fun _ => 0)), (cO8_iiri q_12 4 1 qc_13 0), (cAI g qc_13 4 (fun _ => 0)), (cO8_iiri q_14 8 2 qc_15 0), (cAI g qc_15 16 (fun _ => 0)), (cO8_iiri q_16 4 3 qc_17 0), (cAI g qc_17 12 (fun _ => 0)), (cO8_iiri q_18 1 3 qc_19 0), (cAI g qc_19 3 (fun _ => 0)), (cO8_iiri q_20 6 3 qc_21 0), (cAI g qc_21 18 (fun _ => 0)), (cO8_iiri q_22 6 2 qc_23 0), (cAI g qc_23 12 (fun _ => 0))] rfl ?_
  refine k_wide 23 215 (Nat.le_of_ble_eq_true rfl) (Nat.le_of_ble_eq_true rfl) ?_
  refine k_putF (ci := 3) [(cO3_rrrrrrrr h0 q_1 q_10 q_12 q_14 q_16 q_18 q_20 q_22), (cO7_rrrrii q_1 xr_2 xm_3 xw_4 xp_5 0 0), (cO8_iiri xr_2 8 3 xrc_6 0), (cAI g xrc_6 24 (fun _ => 0)), (cO8_iiri xm_3 12 3 xmc_7 0), (cAI g xmc_7 36 (fun _ => 0)), (cO8_iiri xw_4 6 3 xwc_8 0), (cAI g xwc_8 18 (fun _ => 0)), (cO8_iiri xp_5 8 2 xpc_9 0), (cAI g xpc_9 16 (fun _ => 0)), (cO8_iiri q_10 1 6 qc_11 0), (cAI g qc_11 6 (fun _ => 0)), (cO8_iiri q_12 4 1 qc_13 0), (cAI g qc_13 4 (fun _ => 0)), (cO8_iiri q_14 8 2 qc_15 0), (cAI g qc_15 16 (fun _ => 0)), (cO8_iiri q_16 4 3 qc_17 0), (cAI g qc_17 12 (fun _ => 0)), (cO8_iiri q_18 1 3 qc_19 0), (cAI g qc_19 3 (fun _ => 0)), (cO8_iiri q_20 6 3 qc_21 0), (cAI g qc_21 18 (fun _ => 0)), (cO8_iiri q_22 6 2 qc_23 0), (cAI g qc_23 12 (fun _ => 0))] X hi inlX3 rfl tyX3_ok nmX3 7 (by decide) rfl rfl dX3_init_107 mw85 0 rfl rfl rfl (Nat.le_of_ble_eq_true rfl) rfl ?_
  exact k_vret X hr dX3_init_110 (Nat.le_of_ble_eq_true rfl) (Nat.le_of_ble_eq_true rfl) [0, 1, 2, 3, 4, 5, 6, 7, 8, 9, 10, 11, 12, 13, 14, 15, 16, 17, 18, 19, 20, 21, 22, 23] (by decide) rfl rfl ⟨q_1, q_10, q_12, q_14, q_16, q_18, q_20, q_22, qc_11, qc_13, qc_15, qc_17, qc_19, qc_21, qc_23, xr_2, xm_3, xw_4, xp_5, xrc_6, xmc_7, xwc_8, xpc_9, rfl⟩
