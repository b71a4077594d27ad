theorem dX5_slipBy_0 : decode cX5_slipBy 0 = .ok (.aload_n 0, 1) := dk_42 rfl
theorem dX5_slipBy_1 : decode cX5_slipBy 1 = .ok (.iconst 0, 1) := dk_3 rfl
theorem dX5_slipBy_2 : decode cX5_slipBy 2 = .ok (.putfield 30, 3) := dk_181 rfl rfl rfl rfl
theorem dX5_slipBy_5 : decode cX5_slipBy 5 = .ok (.aload_n 0, 1) := dk_42 rfl
theorem dX5_slipBy_6 : decode cX5_slipBy 6 = .ok (.iload_n 1, 1) := dk_27 rfl
theorem dX5_slipBy_7 : decode cX5_slipBy 7 = .ok (.putfield 27, 3) := dk_181 rfl rfl rfl rfl
theorem dX5_slipBy_10 : decode cX5_slipBy 10 = .ok (.return_, 1) := dk_177 rfl
set_option maxHeartbeats 4000000 in
set_option maxRecDepth 100000 in
theorem n_slipBy (l : Launch) (g : Gx) (h0 : Nat) (p0 : Int32) (nr : Nat) (xsnapped : Int32) (xmostSlip : Int32) (xslip : Int32) (xisDrawn : Int32) (xseed : Int32) (xtick : Int32) (xmotorTick : Int32) (xahead : Int32) : cV l g yX5_slipBy cX5_slipBy 2 0 0 0 0 [.ref h0, .int p0] [(cO5_riiiiiiii h0 nr xsnapped xmostSlip xslip xisDrawn xseed xtick xmotorTick xahead)] (fun w => ∃ (xisDrawn2 : Int32) (xslip2 : Int32), w = [(cO5_riiiiiiii h0 nr xsnapped xmostSlip xslip2 xisDrawn2 xseed xtick xmotorTick xahead)]) := by
  refine cV.of (by decide) (Nat.le_of_ble_eq_true rfl) ?_
  intro p e s m args below meth c A X hr hi
  refine k_lveq [(0, .ref h0), (1, .int p0)] rfl ?_
  refine k_aload_n X dX5_slipBy_0 0 rfl ?_
  refine k_iconst (v := 0) X dX5_slipBy_1 (by decide) ?_
  refine k_put (ci := 5) [(cO5_riiiiiiii h0 nr xsnapped xmostSlip xslip 0 xseed xtick xmotorTick xahead)] X inlX5 rfl tyX5_ok nmX5 4 (by decide) rfl dX5_slipBy_2 mw129 0 rfl (by decide) (by decide) (Nat.le_of_ble_eq_true rfl) rfl ?_
  refine k_aload_n X dX5_slipBy_5 0 rfl ?_
  refine k_iload_n X dX5_slipBy_6 1 rfl ?_
  refine k_put (ci := 5) [(cO5_riiiiiiii h0 nr xsnapped xmostSlip p0 0 xseed xtick xmotorTick xahead)] X inlX5 rfl tyX5_ok nmX5 3 (by decide) rfl dX5_slipBy_7 mw128 0 rfl rfl rfl (Nat.le_of_ble_eq_true rfl) rfl ?_
  exact k_vret X hr dX5_slipBy_10 (Nat.le_of_ble_eq_true rfl) (Nat.le_of_ble_eq_true rfl) [0] (by decide) rfl rfl ⟨0, p0, rfl⟩

theorem dX5_drawBy_0 : decode cX5_drawBy 0 = .ok (.aload_n 0, 1) := dk_42 rfl
theorem dX5_drawBy_1 : decode cX5_drawBy 1 = .ok (.iconst 1, 1) := dk_4 rfl
theorem dX5_drawBy_2 : decode cX5_drawBy 2 = .ok (.putfield 30, 3) := dk_181 rfl rfl rfl rfl
theorem dX5_drawBy_5 : decode cX5_drawBy 5 = .ok (.aload_n 0, 1) := dk_42 rfl
theorem dX5_drawBy_6 : decode cX5_drawBy 6 = .ok (.iload_n 1, 1) := dk_27 rfl
theorem dX5_drawBy_7 : decode cX5_drawBy 7 = .ok (.putfield 34, 3) := dk_181 rfl rfl rfl rfl
theorem dX5_drawBy_10 : decode cX5_drawBy 10 = .ok (.return_, 1) := dk_177 rfl
set_option maxHeartbeats 4000000 in
set_option maxRecDepth 100000 in
theorem n_drawBy (l : Launch) (g : Gx) (h0 : Nat) (p0 : Int32) (nr : Nat) (xsnapped : Int32) (xmostSlip : Int32) (xslip : Int32) (xisDrawn : Int32) (xseed : Int32) (xtick : Int32) (xmotorTick : Int32) (xahead : Int32) : cV l g yX5_drawBy cX5_drawBy 2 0 0 0 0 [.ref h0, .int p0] [(cO5_riiiiiiii h0 nr xsnapped xmostSlip xslip xisDrawn xseed xtick xmotorTick xahead)] (fun w => ∃ (xisDrawn2 : Int32) (xseed2 : Int32), w = [(cO5_riiiiiiii h0 nr xsnapped xmostSlip xslip xisDrawn2 xseed2 xtick xmotorTick xahead)]) := by
  refine cV.of (by decide) (Nat.le_of_ble_eq_true rfl) ?_
  intro p e s m args below meth c A X hr hi
  refine k_lveq [(0, .ref h0), (1, .int p0)] rfl ?_
  refine k_aload_n X dX5_drawBy_0 0 rfl ?_
  refine k_iconst (v := 1) X dX5_drawBy_1 (by decide) ?_
  refine k_put (ci := 5) [(cO5_riiiiiiii h0 nr xsnapped xmostSlip xslip 1 xseed xtick xmotorTick xahead)] X inlX5 rfl tyX5_ok nmX5 4 (by decide) rfl dX5_drawBy_2 mw129 0 rfl (by decide) (by decide) (Nat.le_of_ble_eq_true rfl) rfl ?_
  refine k_aload_n X dX5_drawBy_5 0 rfl ?_
  refine k_iload_n X dX5_drawBy_6 1 rfl ?_
  refine k_put (ci := 5) [(cO5_riiiiiiii h0 nr xsnapped xmostSlip xslip 1 p0 xtick xmotorTick xahead)] X inlX5 rfl tyX5_ok nmX5 5 (by decide) rfl dX5_drawBy_7 mw130 0 rfl rfl rfl (Nat.le_of_ble_eq_true rfl) rfl ?_
  exact k_vret X hr dX5_drawBy_10 (Nat.le_of_ble_eq_true rfl) (Nat.le_of_ble_eq_true rfl) [0] (by decide) rfl rfl ⟨1, p0, rfl⟩

theorem dX5_draw_0 : decode cX5_draw 0 = .ok (.aload_n 0, 1) := dk_42 rfl
theorem dX5_draw_1 : decode cX5_draw 1 = .ok (.bipush 75, 2) := dk_16 rfl rfl (by decide)
theorem dX5_draw_3 : decode cX5_draw 3 = .ok (.aload_n 0, 1) := dk_42 rfl
theorem dX5_draw_4 : decode cX5_draw 4 = .ok (.getfield 34, 3) := dk_180 rfl rfl rfl rfl
theorem dX5_draw_7 : decode cX5_draw 7 = .ok (.imul, 1) := dk_104 rfl
theorem dX5_draw_8 : decode cX5_draw 8 = .ok (.bipush 74, 2) := dk_16 rfl rfl (by decide)
theorem dX5_draw_10 : decode cX5_draw 10 = .ok (.iadd, 1) := dk_96 rfl
theorem dX5_draw_11 : decode cX5_draw 11 = .ok (.ldc 114, 2) := dk_18 rfl rfl rfl
theorem dX5_draw_13 : decode cX5_draw 13 = .ok (.irem, 1) := dk_112 rfl
theorem dX5_draw_14 : decode cX5_draw 14 = .ok (.putfield 34, 3) := dk_181 rfl rfl rfl rfl
theorem dX5_draw_17 : decode cX5_draw 17 = .ok (.aload_n 0, 1) := dk_42 rfl
theorem dX5_draw_18 : decode cX5_draw 18 = .ok (.getfield 34, 3) := dk_180 rfl rfl rfl rfl
theorem dX5_draw_21 : decode cX5_draw 21 = .ok (.ireturn, 1) := dk_172 rfl
set_option maxHeartbeats 4000000 in
set_option maxRecDepth 100000 in
theorem n_draw (l : Launch) (g : Gx) (h0 : Nat) (nr : Nat) (xsnapped : Int32) (xmostSlip : Int32) (xslip : Int32) (xisDrawn : Int32) (xseed : Int32) (xtick : Int32) (xmotorTick : Int32) (xahead : Int32) : cI l g yX5_draw cX5_draw 1 (some .int) 0 0 0 0 [.ref h0] [(cO5_riiiiiiii h0 nr xsnapped xmostSlip xslip xisDrawn xseed xtick xmotorTick xahead)] (fun r w => ∃ (xseed2 : Int32), w = [(cO5_riiiiiiii h0 nr xsnapped xmostSlip xslip xisDrawn xseed2 xtick xmotorTick xahead)]) := by
  refine cI.of (by decide) (Nat.le_of_ble_eq_true rfl) ?_
  intro p e s m args below meth c A X hr hi
  refine k_lveq [(0, .ref h0)] rfl ?_
  refine k_aload_n X dX5_draw_0 0 rfl ?_
  refine k_bipush (v := 75) X dX5_draw_1 (by decide) ?_
  refine k_aload_n X dX5_draw_3 0 rfl ?_
  refine k_get (ci := 5) X inlX5 rfl 5 (by decide) dX5_draw_4 mw130 0 rfl rfl ?_
  refine k_imul X dX5_draw_7 ?_
  refine k_nm (fun z_1 ez_1 => ?_)
  refine k_bipush (v := 74) X dX5_draw_8 (by decide) ?_
  refine k_iadd X dX5_draw_10 ?_
  refine k_nm (fun z_2 ez_2 => ?_)
  refine k_ldc (v := 65537) X dX5_draw_11 mw795 ?_
  refine k_irem X dX5_draw_13 (by decide) ?_
  refine k_nm (fun z_3 ez_3 => ?_)
  refine k_put (ci := 5) [(cO5_riiiiiiii h0 nr xsnapped xmostSlip xslip xisDrawn z_3 xtick xmotorTick xahead)] X inlX5 rfl tyX5_ok nmX5 5 (by decide) rfl dX5_draw_14 mw130 0 rfl rfl rfl (Nat.le_of_ble_eq_true rfl) rfl ?_
  refine k_aload_n X dX5_draw_17 0 rfl ?_
  refine k_get (ci := 5) X inlX5 rfl 5 (by decide) dX5_draw_18 mw130 0 rfl rfl ?_
  exact k_iret X hr dX5_draw_21 (Nat.le_of_ble_eq_true rfl) (Nat.le_of_ble_eq_true rfl) [0] (by decide) rfl rfl ⟨z_3, rfl⟩

theorem dX5_goBy_0 : decode cX5_goBy 0 = .ok (.aload_n 0, 1) := dk_42 rfl
theorem dX5_goBy_1 : decode cX5_goBy 1 = .ok (.getfield 14, 3) := dk_180 rfl rfl rfl rfl
theorem dX5_goBy_4 : decode cX5_goBy 4 = .ok (.iload_n 1, 1) := dk_27 rfl
theorem dX5_goBy_5 : decode cX5_goBy 5 = .ok (.iconst 0, 1) := dk_3 rfl
theorem dX5_goBy_6 : decode cX5_goBy 6 = .ok (.iload_n 2, 1) := dk_28 rfl
theorem dX5_goBy_7 : decode cX5_goBy 7 = .ok (.invokevirtual 76, 3) := dk_182 rfl rfl rfl rfl
theorem dX5_goBy_10 : decode cX5_goBy 10 = .ok (.aload_n 0, 1) := dk_42 rfl
theorem dX5_goBy_11 : decode cX5_goBy 11 = .ok (.getfield 14, 3) := dk_180 rfl rfl rfl rfl
theorem dX5_goBy_14 : decode cX5_goBy 14 = .ok (.iload_n 1, 1) := dk_27 rfl
theorem dX5_goBy_15 : decode cX5_goBy 15 = .ok (.iconst 1, 1) := dk_4 rfl
theorem dX5_goBy_16 : decode cX5_goBy 16 = .ok (.iconst 0, 1) := dk_3 rfl
theorem dX5_goBy_17 : decode cX5_goBy 17 = .ok (.invokevirtual 76, 3) := dk_182 rfl rfl rfl rfl
theorem dX5_goBy_20 : decode cX5_goBy 20 = .ok (.aload_n 0, 1) := dk_42 rfl
theorem dX5_goBy_21 : decode cX5_goBy 21 = .ok (.getfield 14, 3) := dk_180 rfl rfl rfl rfl
theorem dX5_goBy_24 : decode cX5_goBy 24 = .ok (.iload_n 1, 1) := dk_27 rfl
theorem dX5_goBy_25 : decode cX5_goBy 25 = .ok (.iconst 2, 1) := dk_5 rfl
theorem dX5_goBy_26 : decode cX5_goBy 26 = .ok (.iconst 0, 1) := dk_3 rfl
theorem dX5_goBy_27 : decode cX5_goBy 27 = .ok (.invokevirtual 76, 3) := dk_182 rfl rfl rfl rfl
theorem dX5_goBy_30 : decode cX5_goBy 30 = .ok (.aload_n 0, 1) := dk_42 rfl
theorem dX5_goBy_31 : decode cX5_goBy 31 = .ok (.getfield 14, 3) := dk_180 rfl rfl rfl rfl
theorem dX5_goBy_34 : decode cX5_goBy 34 = .ok (.iload_n 1, 1) := dk_27 rfl
theorem dX5_goBy_35 : decode cX5_goBy 35 = .ok (.iconst 3, 1) := dk_6 rfl
theorem dX5_goBy_36 : decode cX5_goBy 36 = .ok (.iconst 1, 1) := dk_4 rfl
theorem dX5_goBy_37 : decode cX5_goBy 37 = .ok (.invokevirtual 76, 3) := dk_182 rfl rfl rfl rfl
theorem dX5_goBy_40 : decode cX5_goBy 40 = .ok (.aload_n 0, 1) := dk_42 rfl
theorem dX5_goBy_41 : decode cX5_goBy 41 = .ok (.getfield 14, 3) := dk_180 rfl rfl rfl rfl
theorem dX5_goBy_44 : decode cX5_goBy 44 = .ok (.iload_n 1, 1) := dk_27 rfl
theorem dX5_goBy_45 : decode cX5_goBy 45 = .ok (.iconst 4, 1) := dk_7 rfl
theorem dX5_goBy_46 : decode cX5_goBy 46 = .ok (.bipush (-2), 2) := dk_16 rfl rfl (by decide)
theorem dX5_goBy_48 : decode cX5_goBy 48 = .ok (.invokevirtual 76, 3) := dk_182 rfl rfl rfl rfl
theorem dX5_goBy_51 : decode cX5_goBy 51 = .ok (.aload_n 0, 1) := dk_42 rfl
theorem dX5_goBy_52 : decode cX5_goBy 52 = .ok (.getfield 14, 3) := dk_180 rfl rfl rfl rfl
theorem dX5_goBy_55 : decode cX5_goBy 55 = .ok (.iload_n 1, 1) := dk_27 rfl
theorem dX5_goBy_56 : decode cX5_goBy 56 = .ok (.iconst 5, 1) := dk_8 rfl
theorem dX5_goBy_57 : decode cX5_goBy 57 = .ok (.iconst 0, 1) := dk_3 rfl
theorem dX5_goBy_58 : decode cX5_goBy 58 = .ok (.invokevirtual 76, 3) := dk_182 rfl rfl rfl rfl
theorem dX5_goBy_61 : decode cX5_goBy 61 = .ok (.aload_n 0, 1) := dk_42 rfl
theorem dX5_goBy_62 : decode cX5_goBy 62 = .ok (.getfield 14, 3) := dk_180 rfl rfl rfl rfl
theorem dX5_goBy_65 : decode cX5_goBy 65 = .ok (.iload_n 1, 1) := dk_27 rfl
theorem dX5_goBy_66 : decode cX5_goBy 66 = .ok (.bipush 6, 2) := dk_16 rfl rfl (by decide)
theorem dX5_goBy_68 : decode cX5_goBy 68 = .ok (.aload_n 0, 1) := dk_42 rfl
theorem dX5_goBy_69 : decode cX5_goBy 69 = .ok (.getfield 37, 3) := dk_180 rfl rfl rfl rfl
theorem dX5_goBy_72 : decode cX5_goBy 72 = .ok (.invokevirtual 76, 3) := dk_182 rfl rfl rfl rfl
theorem dX5_goBy_75 : decode cX5_goBy 75 = .ok (.aload_n 0, 1) := dk_42 rfl
theorem dX5_goBy_76 : decode cX5_goBy 76 = .ok (.getfield 14, 3) := dk_180 rfl rfl rfl rfl
theorem dX5_goBy_79 : decode cX5_goBy 79 = .ok (.iload_n 1, 1) := dk_27 rfl
theorem dX5_goBy_80 : decode cX5_goBy 80 = .ok (.bipush 7, 2) := dk_16 rfl rfl (by decide)
theorem dX5_goBy_82 : decode cX5_goBy 82 = .ok (.aload_n 0, 1) := dk_42 rfl
theorem dX5_goBy_83 : decode cX5_goBy 83 = .ok (.getfield 37, 3) := dk_180 rfl rfl rfl rfl
theorem dX5_goBy_86 : decode cX5_goBy 86 = .ok (.invokevirtual 76, 3) := dk_182 rfl rfl rfl rfl
theorem dX5_goBy_89 : decode cX5_goBy 89 = .ok (.aload_n 0, 1) := dk_42 rfl
theorem dX5_goBy_90 : decode cX5_goBy 90 = .ok (.aload_n 0, 1) := dk_42 rfl
theorem dX5_goBy_91 : decode cX5_goBy 91 = .ok (.getfield 37, 3) := dk_180 rfl rfl rfl rfl
theorem dX5_goBy_94 : decode cX5_goBy 94 = .ok (.putfield 40, 3) := dk_181 rfl rfl rfl rfl
theorem dX5_goBy_97 : decode cX5_goBy 97 = .ok (.aload_n 0, 1) := by decide +kernel
theorem dX5_goBy_98 : decode cX5_goBy 98 = .ok (.iconst 0, 1) := by decide +kernel
theorem dX5_goBy_99 : decode cX5_goBy 99 = .ok (.putfield 43, 3) := by decide +kernel
theorem dX5_goBy_102 : decode cX5_goBy 102 = .ok (.return_, 1) := by decide +kernel
set_option maxHeartbeats 4000000 in
set_option maxRecDepth 100000 in
theorem n_goBy (l : Launch) (g : Gx) (h0 : Nat) (p0 : Int32) (p1 : Int32) (nr : Nat) (xsnapped : Int32) (xmostSlip : Int32) (xslip : Int32) (xisDrawn : Int32) (xseed : Int32) (xtick : Int32) (xmotorTick : Int32) (xahead : Int32) (nrc : Nat) (nrn : Int32) (nrf : Nat → Int32) : cV l g yX5_goBy cX5_goBy 3 1 23 0 0 [.ref h0, .int p0, .int p1] [(cO5_riiiiiiii h0 nr xsnapped xmostSlip xslip xisDrawn xseed xtick xmotorTick xahead), (cO8_iiri nr 8 10 nrc nrn), (cAI g nrc 80 nrf)] (fun w => ∃ (xmotorTick2 : Int32) (xahead2 : Int32) (nrg : Nat → Int32), w = [(cO5_riiiiiiii h0 nr xsnapped xmostSlip xslip xisDrawn xseed xtick xmotorTick2 xahead2), (cO8_iiri nr 8 10 nrc nrn), (cAI g nrc 80 nrg)]) := by
  refine cV.of (by decide) (Nat.le_of_ble_eq_true rfl) ?_
  intro p e s m args below meth c A X hr hi
  refine k_lveq [(0, .ref h0), (1, .int p0), (2, .int p1)] rfl ?_
  refine k_aload_n X dX5_goBy_0 0 rfl ?_
  refine k_get (ci := 5) X inlX5 rfl 0 (by decide) dX5_goBy_1 mw125 0 rfl rfl ?_
  refine k_iload_n X dX5_goBy_4 1 rfl ?_
  refine k_iconst (v := 0) X dX5_goBy_5 (by decide) ?_
  refine k_iload_n X dX5_goBy_6 2 rfl ?_
  refine k_callVV (n := 3) (As := [.int p0, .int 0, .int p1]) (st := []) X [(cO8_iiri nr 8 10 nrc nrn), (cAI g nrc 80 nrf)] [(cO5_riiiiiiii h0 nr xsnapped xmostSlip xslip xisDrawn xseed xtick xmotorTick xahead)] [1, 2] [0] (t_put l g nr p0 0 p1 8 10 nrc nrn 80 nrf (tbk_8_10)) dX5_goBy_7 mw766 mw326 mw327 mw64 mw328 rfl 8 rfl rfl 0 _ rfl yk_yX8_put_3 rfl (Nat.le_of_ble_eq_true rfl) (Nat.le_of_ble_eq_true rfl) (Nat.le_of_ble_eq_true rfl) (Nat.le_of_ble_eq_true rfl) (Nat.le_of_ble_eq_true rfl) rfl rfl (by decide) rfl (by decide) (by decide) ?_
  rintro w ⟨fa_1, hr_3, rfl⟩
  refine k_ws [(cO5_riiiiiiii h0 nr xsnapped xmostSlip xslip xisDrawn xseed xtick xmotorTick xahead), (cO8_iiri nr 8 10 nrc nrn), (cAI g nrc 80 fa_1)] rfl ?_
  refine k_aload_n X dX5_goBy_10 0 rfl ?_
  refine k_get (ci := 5) X inlX5 rfl 0 (by decide) dX5_goBy_11 mw125 0 rfl rfl ?_
  refine k_iload_n X dX5_goBy_14 1 rfl ?_
  refine k_iconst (v := 1) X dX5_goBy_15 (by decide) ?_
  refine k_iconst (v := 0) X dX5_goBy_16 (by decide) ?_
  refine k_callVV (n := 3) (As := [.int p0, .int 1, .int 0]) (st := []) X [(cO8_iiri nr 8 10 nrc nrn), (cAI g nrc 80 fa_1)] [(cO5_riiiiiiii h0 nr xsnapped xmostSlip xslip xisDrawn xseed xtick xmotorTick xahead)] [1, 2] [0] (t_put l g nr p0 1 0 8 10 nrc nrn 80 fa_1 (tbk_8_10)) dX5_goBy_17 mw766 mw326 mw327 mw64 mw328 rfl 8 rfl rfl 0 _ rfl yk_yX8_put_3 rfl (Nat.le_of_ble_eq_true rfl) (Nat.le_of_ble_eq_true rfl) (Nat.le_of_ble_eq_true rfl) (Nat.le_of_ble_eq_true rfl) (Nat.le_of_ble_eq_true rfl) rfl rfl (by decide) rfl (by decide) (by decide) ?_
  rintro w ⟨fa_4, hr_6, rfl⟩
  refine k_ws [(cO5_riiiiiiii h0 nr xsnapped xmostSlip xslip xisDrawn xseed xtick xmotorTick xahead), (cO8_iiri nr 8 10 nrc nrn), (cAI g nrc 80 fa_4)] rfl ?_
  refine k_aload_n X dX5_goBy_20 0 rfl ?_
  refine k_get (ci := 5) X inlX5 rfl 0 (by decide) dX5_goBy_21 mw125 0 rfl rfl ?_
  refine k_iload_n X dX5_goBy_24 1 rfl ?_
  refine k_iconst (v := 2) X dX5_goBy_25 (by decide) ?_
  refine k_iconst (v := 0) X dX5_goBy_26 (by decide) ?_
  refine k_callVV (n := 3) (As := [.int p0, .int 2, .int 0]) (st := []) X [(cO8_iiri nr 8 10 nrc nrn), (cAI g nrc 80 fa_4)] [(cO5_riiiiiiii h0 nr xsnapped xmostSlip xslip xisDrawn xseed xtick xmotorTick xahead)] [1, 2] [0] (t_put l g nr p0 2 0 8 10 nrc nrn 80 fa_4 (tbk_8_10)) dX5_goBy_27 mw766 mw326 mw327 mw64 mw328 rfl 8 rfl rfl 0 _ rfl yk_yX8_put_3 rfl (Nat.le_of_ble_eq_true rfl) (Nat.le_of_ble_eq_true rfl) (Nat.le_of_ble_eq_true rfl) (Nat.le_of_ble_eq_true rfl) (Nat.le_of_ble_eq_true rfl) rfl rfl (by decide) rfl (by decide) (by decide) ?_
  rintro w ⟨fa_7, hr_9, rfl⟩
  refine k_ws [(cO5_riiiiiiii h0 nr xsnapped xmostSlip xslip xisDrawn xseed xtick xmotorTick xahead), (cO8_iiri nr 8 10 nrc nrn), (cAI g nrc 80 fa_7)] rfl ?_
  refine k_aload_n X dX5_goBy_30 0 rfl ?_
  refine k_get (ci := 5) X inlX5 rfl 0 (by decide) dX5_goBy_31 mw125 0 rfl rfl ?_
  refine k_iload_n X dX5_goBy_34 1 rfl ?_
  refine k_iconst (v := 3) X dX5_goBy_35 (by decide) ?_
  refine k_iconst (v := 1) X dX5_goBy_36 (by decide) ?_
  refine k_callVV (n := 3) (As := [.int p0, .int 3, .int 1]) (st := []) X [(cO8_iiri nr 8 10 nrc nrn), (cAI g nrc 80 fa_7)] [(cO5_riiiiiiii h0 nr xsnapped xmostSlip xslip xisDrawn xseed xtick xmotorTick xahead)] [1, 2] [0] (t_put l g nr p0 3 1 8 10 nrc nrn 80 fa_7 (tbk_8_10)) dX5_goBy_37 mw766 mw326 mw327 mw64 mw328 rfl 8 rfl rfl 0 _ rfl yk_yX8_put_3 rfl (Nat.le_of_ble_eq_true rfl) (Nat.le_of_ble_eq_true rfl) (Nat.le_of_ble_eq_true rfl) (Nat.le_of_ble_eq_true rfl) (Nat.le_of_ble_eq_true rfl) rfl rfl (by decide) rfl (by decide) (by decide) ?_
  rintro w ⟨fa_10, hr_12, rfl⟩
  refine k_ws [(cO5_riiiiiiii h0 nr xsnapped xmostSlip xslip xisDrawn xseed xtick xmotorTick xahead), (cO8_iiri nr 8 10 nrc nrn), (cAI g nrc 80 fa_10)] rfl ?_
  refine k_aload_n X dX5_goBy_40 0 rfl ?_
  refine k_get (ci := 5) X inlX5 rfl 0 (by decide) dX5_goBy_41 mw125 0 rfl rfl ?_
  refine k_iload_n X dX5_goBy_44 1 rfl ?_
  refine k_iconst (v := 4) X dX5_goBy_45 (by decide) ?_
  refine k_bipush (v := -2) X dX5_goBy_46 (by decide) ?_
  refine k_callVV (n := 3) (As := [.int p0, .int 4, .int (-2)]) (st := []) X [(cO8_iiri nr 8 10 nrc nrn), (cAI g nrc 80 fa_10)] [(cO5_riiiiiiii h0 nr xsnapped xmostSlip xslip xisDrawn xseed xtick xmotorTick xahead)] [1, 2] [0] (t_put l g nr p0 4 ((-2)) 8 10 nrc nrn 80 fa_10 (tbk_8_10)) dX5_goBy_48 mw766 mw326 mw327 mw64 mw328 rfl 8 rfl rfl 0 _ rfl yk_yX8_put_3 rfl (Nat.le_of_ble_eq_true rfl) (Nat.le_of_ble_eq_true rfl) (Nat.le_of_ble_eq_true rfl) (Nat.le_of_ble_eq_true rfl) (Nat.le_of_ble_eq_true rfl) rfl rfl (by decide) rfl (by decide) (by decide) ?_
  rintro w ⟨fa_13, hr_15, rfl⟩
  refine k_ws [(cO5_riiiiiiii h0 nr xsnapped xmostSlip xslip xisDrawn xseed xtick xmotorTick xahead), (cO8_iiri nr 8 10 nrc nrn), (cAI g nrc 80 fa_13)] rfl ?_
  refine k_aload_n X dX5_goBy_51 0 rfl ?_
  refine k_get (ci := 5) X inlX5 rfl 0 (by decide) dX5_goBy_52 mw125 0 rfl rfl ?_
  refine k_iload_n X dX5_goBy_55 1 rfl ?_
  refine k_iconst (v := 5) X dX5_goBy_56 (by decide) ?_
  refine k_iconst (v := 0) X dX5_goBy_57 (by decide) ?_
  refine k_callVV (n := 3) (As := [.int p0, .int 5, .int 0]) (st := []) X [(cO8_iiri nr 8 10 nrc nrn), (cAI g nrc 80 fa_13)] [(cO5_riiiiiiii h0 nr xsnapped xmostSlip xslip xisDrawn xseed xtick xmotorTick xahead)] [1, 2] [0] (t_put l g nr p0 5 0 8 10 nrc nrn 80 fa_13 (tbk_8_10)) dX5_goBy_58 mw766 mw326 mw327 mw64 mw328 rfl 8 rfl rfl 0 _ rfl yk_yX8_put_3 rfl (Nat.le_of_ble_eq_true rfl) (Nat.le_of_ble_eq_true rfl) (Nat.le_of_ble_eq_true rfl) (Nat.le_of_ble_eq_true rfl) (Nat.le_of_ble_eq_true rfl) rfl rfl (by decide) rfl (by decide) (by decide) ?_
  rintro w ⟨fa_16, hr_18, rfl⟩
  refine k_ws [(cO5_riiiiiiii h0 nr xsnapped xmostSlip xslip xisDrawn xseed xtick xmotorTick xahead), (cO8_iiri nr 8 10 nrc nrn), (cAI g nrc 80 fa_16)] rfl ?_
  refine k_aload_n X dX5_goBy_61 0 rfl ?_
  refine k_get (ci := 5) X inlX5 rfl 0 (by decide) dX5_goBy_62 mw125 0 rfl rfl ?_
  refine k_iload_n X dX5_goBy_65 1 rfl ?_
  refine k_bipush (v := 6) X dX5_goBy_66 (by decide) ?_
  refine k_aload_n X dX5_goBy_68 0 rfl ?_
  refine k_get (ci := 5) X inlX5 rfl 6 (by decide) dX5_goBy_69 mw131 0 rfl rfl ?_
  refine k_callVV (n := 3) (As := [.int p0, .int 6, .int xtick]) (st := []) X [(cO8_iiri nr 8 10 nrc nrn), (cAI g nrc 80 fa_16)] [(cO5_riiiiiiii h0 nr xsnapped xmostSlip xslip xisDrawn xseed xtick xmotorTick xahead)] [1, 2] [0] (t_put l g nr p0 6 xtick 8 10 nrc nrn 80 fa_16 (tbk_8_10)) dX5_goBy_72 mw766 mw326 mw327 mw64 mw328 rfl 8 rfl rfl 0 _ rfl yk_yX8_put_3 rfl (Nat.le_of_ble_eq_true rfl) (Nat.le_of_ble_eq_true rfl) (Nat.le_of_ble_eq_true rfl) (Nat.le_of_ble_eq_true rfl) (Nat.le_of_ble_eq_true rfl) rfl rfl (by decide) rfl (by decide) (by decide) ?_
  rintro w ⟨fa_19, hr_21, rfl⟩
  refine k_ws [(cO5_riiiiiiii h0 nr xsnapped xmostSlip xslip xisDrawn xseed xtick xmotorTick xahead), (cO8_iiri nr 8 10 nrc nrn), (cAI g nrc 80 fa_19)] rfl ?_
  refine k_aload_n X dX5_goBy_75 0 rfl ?_
  refine k_get (ci := 5) X inlX5 rfl 0 (by decide) dX5_goBy_76 mw125 0 rfl rfl ?_
  refine k_iload_n X dX5_goBy_79 1 rfl ?_
  refine k_bipush (v := 7) X dX5_goBy_80 (by decide) ?_
  refine k_aload_n X dX5_goBy_82 0 rfl ?_
  refine k_get (ci := 5) X inlX5 rfl 6 (by decide) dX5_goBy_83 mw131 0 rfl rfl ?_
  refine k_callVV (n := 3) (As := [.int p0, .int 7, .int xtick]) (st := []) X [(cO8_iiri nr 8 10 nrc nrn), (cAI g nrc 80 fa_19)] [(cO5_riiiiiiii h0 nr xsnapped xmostSlip xslip xisDrawn xseed xtick xmotorTick xahead)] [1, 2] [0] (t_put l g nr p0 7 xtick 8 10 nrc nrn 80 fa_19 (tbk_8_10)) dX5_goBy_86 mw766 mw326 mw327 mw64 mw328 rfl 8 rfl rfl 0 _ rfl yk_yX8_put_3 rfl (Nat.le_of_ble_eq_true rfl) (Nat.le_of_ble_eq_true rfl) (Nat.le_of_ble_eq_true rfl) (Nat.le_of_ble_eq_true rfl) (Nat.le_of_ble_eq_true rfl) rfl rfl (by decide) rfl (by decide) (by decide) ?_
  rintro w ⟨fa_22, hr_24, rfl⟩
  refine k_ws [(cO5_riiiiiiii h0 nr xsnapped xmostSlip xslip xisDrawn xseed xtick xmotorTick xahead), (cO8_iiri nr 8 10 nrc nrn), (cAI g nrc 80 fa_22)] rfl ?_
  refine k_aload_n X dX5_goBy_89 0 rfl ?_
  refine k_aload_n X dX5_goBy_90 0 rfl ?_
  refine k_get (ci := 5) X inlX5 rfl 6 (by decide) dX5_goBy_91 mw131 0 rfl rfl ?_
  refine k_put (ci := 5) [(cO5_riiiiiiii h0 nr xsnapped xmostSlip xslip xisDrawn xseed xtick xtick xahead), (cO8_iiri nr 8 10 nrc nrn), (cAI g nrc 80 fa_22)] X inlX5 rfl tyX5_ok nmX5 7 (by decide) rfl dX5_goBy_94 mw132 0 rfl rfl rfl (Nat.le_of_ble_eq_true rfl) rfl ?_
  refine k_aload_n X dX5_goBy_97 0 rfl ?_
  refine k_iconst (v := 0) X dX5_goBy_98 (by decide) ?_
  refine k_put (ci := 5) [(cO5_riiiiiiii h0 nr xsnapped xmostSlip xslip xisDrawn xseed xtick xtick 0), (cO8_iiri nr 8 10 nrc nrn), (cAI g nrc 80 fa_22)] X inlX5 rfl tyX5_ok nmX5 8 (by decide) rfl dX5_goBy_99 mw133 0 rfl rfl rfl (Nat.le_of_ble_eq_true rfl) rfl ?_
  exact k_vret X hr dX5_goBy_102 (Nat.le_of_ble_eq_true rfl) (Nat.le_of_ble_eq_true rfl) [0, 1, 2] (by decide) rfl rfl ⟨xtick, 0, fa_22, rfl⟩

theorem dX5_sum_0 : decode cX5_sum 0 = .ok (.iconst 0, 1) := dk_3 rfl
theorem dX5_sum_1 : decode cX5_sum 1 = .ok (.istore_n 2, 1) := dk_61 rfl
theorem dX5_sum_2 : decode cX5_sum 2 = .ok (.iconst 0, 1) := dk_3 rfl
theorem dX5_sum_3 : decode cX5_sum 3 = .ok (.istore_n 3, 1) := dk_62 rfl
theorem dX5_sum_4 : decode cX5_sum 4 = .ok (.iload_n 3, 1) := dk_29 rfl
theorem dX5_sum_5 : decode cX5_sum 5 = .ok (.aload_n 0, 1) := dk_42 rfl
theorem dX5_sum_6 : decode cX5_sum 6 = .ok (.getfield 14, 3) := dk_180 rfl rfl rfl rfl
theorem dX5_sum_9 : decode cX5_sum 9 = .ok (.getfield 51, 3) := dk_180 rfl rfl rfl rfl
theorem dX5_sum_12 : decode cX5_sum 12 = .ok (.if_icmp .ge 21, 3) := dk_162 rfl rfl rfl (by decide)
theorem dX5_sum_15 : decode cX5_sum 15 = .ok (.iload_n 2, 1) := dk_28 rfl
theorem dX5_sum_16 : decode cX5_sum 16 = .ok (.aload_n 0, 1) := dk_42 rfl
theorem dX5_sum_17 : decode cX5_sum 17 = .ok (.getfield 14, 3) := dk_180 rfl rfl rfl rfl
theorem dX5_sum_20 : decode cX5_sum 20 = .ok (.iload_n 3, 1) := dk_29 rfl
theorem dX5_sum_21 : decode cX5_sum 21 = .ok (.iload_n 1, 1) := dk_27 rfl
theorem dX5_sum_22 : decode cX5_sum 22 = .ok (.invokevirtual 59, 3) := dk_182 rfl rfl rfl rfl
theorem dX5_sum_25 : decode cX5_sum 25 = .ok (.iadd, 1) := dk_96 rfl
theorem dX5_sum_26 : decode cX5_sum 26 = .ok (.istore_n 2, 1) := dk_61 rfl
theorem dX5_sum_27 : decode cX5_sum 27 = .ok (.iinc 3 1, 3) := dk_132 rfl rfl rfl rfl (by decide)
theorem dX5_sum_30 : decode cX5_sum 30 = .ok (.goto (-26), 3) := dk_167 rfl rfl rfl (by decide)
theorem dX5_sum_33 : decode cX5_sum 33 = .ok (.iload_n 2, 1) := dk_28 rfl
theorem dX5_sum_34 : decode cX5_sum 34 = .ok (.ireturn, 1) := dk_172 rfl
set_option maxHeartbeats 4000000 in
set_option maxRecDepth 100000 in
theorem n_sum (l : Launch) (g : Gx) (h0 : Nat) (p0 : Int32) (nr : Nat) (xsnapped : Int32) (xmostSlip : Int32) (xslip : Int32) (xisDrawn : Int32) (xseed : Int32) (xtick : Int32) (xmotorTick : Int32) (xahead : Int32) (nrc : Nat) (nrn : Int32) (nrf : Nat → Int32) : cI l g yX5_sum cX5_sum 4 (some .int) 1 22 0 0 [.ref h0, .int p0] [(cO5_riiiiiiii h0 nr xsnapped xmostSlip xslip xisDrawn xseed xtick xmotorTick xahead), (cO8_iiri nr 8 10 nrc nrn), (cAI g nrc 80 nrf)] (fun r w => w = [(cO5_riiiiiiii h0 nr xsnapped xmostSlip xslip xisDrawn xseed xtick xmotorTick xahead), (cO8_iiri nr 8 10 nrc nrn), (cAI g nrc 80 nrf)]) := by
  refine cI.of (by decide) (Nat.le_of_ble_eq_true rfl) ?_
  intro p e s m args below meth c A X hr hi
  refine k_lveq [(0, .ref h0), (1, .int p0)] rfl ?_
  refine k_iconst (v := 0) X dX5_sum_0 (by decide) ?_
  refine k_istore_n [(2, .int 0), (0, .ref h0), (1, .int p0)] X dX5_sum_1 (by decide) rfl ?_
  refine k_iconst (v := 0) X dX5_sum_2 (by decide) ?_
  refine k_istore_n [(3, .int 0), (2, .int 0), (0, .ref h0), (1, .int p0)] X dX5_sum_3 (by decide) rfl ?_
  refine (fun hL : ∀ (nn_3 : Nat) (u_1 : Int32) (u_2 : Int32), (nrn.toInt - u_1.toInt).toNat = nn_3 → Wk p l e _ s m args below meth c _ A g _ _ _ [(cO5_riiiiiiii h0 nr xsnapped xmostSlip xslip xisDrawn xseed xtick xmotorTick xahead), (cO8_iiri nr 8 10 nrc nrn), (cAI g nrc 80 nrf)] [(3, .int u_1), (2, .int u_2), (0, .ref h0), (1, .int p0)] 4 [] => hL _ 0 0 rfl ) ?_
  refine fun nn_3 => Nat.strongRecOn nn_3 (fun nn_3 ih_5 => ?_)
  intro u_1 u_2 hm_4 
  refine k_iload_n X dX5_sum_4 0 rfl ?_
  refine k_aload_n X dX5_sum_5 2 rfl ?_
  refine k_get (ci := 5) X inlX5 rfl 0 (by decide) dX5_sum_6 mw125 0 rfl rfl ?_
  refine k_get (ci := 8) X inlX8 rfl 3 (by decide) dX5_sum_9 mw754 1 rfl rfl ?_
  refine k_ic_ge 33 X dX5_sum_12 (by decide) (fun h_6 => ?_) (fun h_6 => ?_)
  · skip
    refine k_iload_n X dX5_sum_33 1 rfl ?_
    exact k_iret X hr dX5_sum_34 (Nat.le_of_ble_eq_true rfl) (Nat.le_of_ble_eq_true rfl) [0, 1, 2] (by decide) rfl rfl rfl
  · skip
    refine k_iload_n X dX5_sum_15 1 rfl ?_
    refine k_aload_n X dX5_sum_16 2 rfl ?_
    refine k_get (ci := 5) X inlX5 rfl 0 (by decide) dX5_sum_17 mw125 0 rfl rfl ?_
    refine k_iload_n X dX5_sum_20 0 rfl ?_
    refine k_iload_n X dX5_sum_21 3 rfl ?_
    refine k_callVI (n := 2) (As := [.int u_1, .int p0]) (st := [.int u_2]) X [(cO8_iiri nr 8 10 nrc nrn), (cAI g nrc 80 nrf)] [(cO5_riiiiiiii h0 nr xsnapped xmostSlip xslip xisDrawn xseed xtick xmotorTick xahead)] [1, 2] [0] (t_at l g nr u_1 p0 8 10 nrc nrn 80 nrf (tbk_8_10)) dX5_sum_22 mw757 mw376 mw377 mw64 mw378 rfl 8 rfl rfl 0 _ rfl yk_yX8_at_2 rfl (Nat.le_of_ble_eq_true rfl) (Nat.le_of_ble_eq_true rfl) (Nat.le_of_ble_eq_true rfl) (Nat.le_of_ble_eq_true rfl) (Nat.le_of_ble_eq_true rfl) rfl rfl (by decide) rfl (by decide) (by decide) ?_
    rintro r_7 w ⟨hr_8, rfl⟩
    refine k_ws [(cO5_riiiiiiii h0 nr xsnapped xmostSlip xslip xisDrawn xseed xtick xmotorTick xahead), (cO8_iiri nr 8 10 nrc nrn), (cAI g nrc 80 nrf)] rfl ?_
    refine k_iadd X dX5_sum_25 ?_
    refine k_nm (fun z_9 ez_9 => ?_)
    refine k_istore_n [(2, .int z_9), (3, .int u_1), (0, .ref h0), (1, .int p0)] X dX5_sum_26 (by decide) rfl ?_
    obtain ⟨z_10, ez_10⟩ : ∃ y : Int32, u_1 + Int32.ofInt 1 = y := ⟨_, rfl⟩
    refine k_iinc z_10 [(3, .int z_10), (2, .int z_9), (0, .ref h0), (1, .int p0)] 1 X dX5_sum_27 rfl ez_10 (by decide) rfl ?_
    refine k_goto 4 X dX5_sum_30 (by decide) ?_
    exact ih_5 _ (by rw [← hm_4]; exact mu_lt (by assumption) (by assumption)) z_10 z_9 rfl 

theorem dX5_waste_0 : decode cX5_waste 0 = .ok (.aload_n 0, 1) := dk_42 rfl
theorem dX5_waste_1 : decode cX5_waste 1 = .ok (.iconst 0, 1) := dk_3 rfl
theorem dX5_waste_2 : decode cX5_waste 2 = .ok (.invokevirtual 115, 3) := dk_182 rfl rfl rfl rfl
theorem dX5_waste_5 : decode cX5_waste 5 = .ok (.aload_n 0, 1) := dk_42 rfl
theorem dX5_waste_6 : decode cX5_waste 6 = .ok (.iconst 1, 1) := dk_4 rfl
theorem dX5_waste_7 : decode cX5_waste 7 = .ok (.invokevirtual 115, 3) := dk_182 rfl rfl rfl rfl
theorem dX5_waste_10 : decode cX5_waste 10 = .ok (.iadd, 1) := dk_96 rfl
theorem dX5_waste_11 : decode cX5_waste 11 = .ok (.aload_n 0, 1) := dk_42 rfl
theorem dX5_waste_12 : decode cX5_waste 12 = .ok (.iconst 2, 1) := dk_5 rfl
theorem dX5_waste_13 : decode cX5_waste 13 = .ok (.invokevirtual 115, 3) := dk_182 rfl rfl rfl rfl
theorem dX5_waste_16 : decode cX5_waste 16 = .ok (.iadd, 1) := dk_96 rfl
theorem dX5_waste_17 : decode cX5_waste 17 = .ok (.ireturn, 1) := dk_172 rfl
set_option maxHeartbeats 4000000 in
set_option maxRecDepth 100000 in
theorem n_waste (l : Launch) (g : Gx) (h0 : Nat) (nr : Nat) (xsnapped : Int32) (xmostSlip : Int32) (xslip : Int32) (xisDrawn : Int32) (xseed : Int32) (xtick : Int32) (xmotorTick : Int32) (xahead : Int32) (nrc : Nat) (nrn : Int32) (nrf : Nat → Int32) : cI l g yX5_waste cX5_waste 1 (some .int) 2 45 0 0 [.ref h0] [(cO5_riiiiiiii h0 nr xsnapped xmostSlip xslip xisDrawn xseed xtick xmotorTick xahead), (cO8_iiri nr 8 10 nrc nrn), (cAI g nrc 80 nrf)] (fun r w => w = [(cO5_riiiiiiii h0 nr xsnapped xmostSlip xslip xisDrawn xseed xtick xmotorTick xahead), (cO8_iiri nr 8 10 nrc nrn), (cAI g nrc 80 nrf)]) := by
  refine cI.of (by decide) (Nat.le_of_ble_eq_true rfl) ?_
  intro p e s m args below meth c A X hr hi
  refine k_lveq [(0, .ref h0)] rfl ?_
  refine k_aload_n X dX5_waste_0 0 rfl ?_
  refine k_iconst (v := 0) X dX5_waste_1 (by decide) ?_
  refine k_callVI (n := 1) (As := [.int 0]) (st := []) X [(cO5_riiiiiiii h0 nr xsnapped xmostSlip xslip xisDrawn xseed xtick xmotorTick xahead), (cO8_iiri nr 8 10 nrc nrn), (cAI g nrc 80 nrf)] [] [0, 1, 2] [] (n_sum l g h0 0 nr xsnapped xmostSlip xslip xisDrawn xseed xtick xmotorTick xahead nrc nrn nrf) dX5_waste_2 mw992 mw914 mw915 mw31 mw916 rfl 5 rfl rfl 0 _ rfl yk_yX5_sum_1 rfl (Nat.le_of_ble_eq_true rfl) (Nat.le_of_ble_eq_true rfl) (Nat.le_of_ble_eq_true rfl) (Nat.le_of_ble_eq_true rfl) (Nat.le_of_ble_eq_true rfl) rfl rfl (by decide) rfl (by decide) (by decide) ?_
  rintro r_1 w rfl
  refine k_ws [(cO5_riiiiiiii h0 nr xsnapped xmostSlip xslip xisDrawn xseed xtick xmotorTick xahead), (cO8_iiri nr 8 10 nrc nrn), (cAI g nrc 80 nrf)] rfl ?_
  refine k_aload_n X dX5_waste_5 0 rfl ?_
  refine k_iconst (v := 1) X dX5_waste_6 (by decide) ?_
  refine k_callVI (n := 1) (As := [.int 1]) (st := [.int r_1]) X [(cO5_riiiiiiii h0 nr xsnapped xmostSlip xslip xisDrawn xseed xtick xmotorTick xahead), (cO8_iiri nr 8 10 nrc nrn), (cAI g nrc 80 nrf)] [] [0, 1, 2] [] (n_sum l g h0 1 nr xsnapped xmostSlip xslip xisDrawn xseed xtick xmotorTick xahead nrc nrn nrf) dX5_waste_7 mw992 mw914 mw915 mw31 mw916 rfl 5 rfl rfl 0 _ rfl yk_yX5_sum_1 rfl (Nat.le_of_ble_eq_true rfl) (Nat.le_of_ble_eq_true rfl) (Nat.le_of_ble_eq_true rfl) (Nat.le_of_ble_eq_true rfl) (Nat.le_of_ble_eq_true rfl) rfl rfl (by decide) rfl (by decide) (by decide) ?_
  rintro r_3 w rfl
  refine k_ws [(cO5_riiiiiiii h0 nr xsnapped xmostSlip xslip xisDrawn xseed xtick xmotorTick xahead), (cO8_iiri nr 8 10 nrc nrn), (cAI g nrc 80 nrf)] rfl ?_
  refine k_iadd X dX5_waste_10 ?_
  refine k_nm (fun z_5 ez_5 => ?_)
  refine k_aload_n X dX5_waste_11 0 rfl ?_
  refine k_iconst (v := 2) X dX5_waste_12 (by decide) ?_
  refine k_callVI (n := 1) (As := [.int 2]) (st := [.int z_5]) X [(cO5_riiiiiiii h0 nr xsnapped xmostSlip xslip xisDrawn xseed xtick xmotorTick xahead), (cO8_iiri nr 8 10 nrc nrn), (cAI g nrc 80 nrf)] [] [0, 1, 2] [] (n_sum l g h0 2 nr xsnapped xmostSlip xslip xisDrawn xseed xtick xmotorTick xahead nrc nrn nrf) dX5_waste_13 mw992 mw914 mw915 mw31 mw916 rfl 5 rfl rfl 0 _ rfl yk_yX5_sum_1 rfl (Nat.le_of_ble_eq_true rfl) (Nat.le_of_ble_eq_true rfl) (Nat.le_of_ble_eq_true rfl) (Nat.le_of_ble_eq_true rfl) (Nat.le_of_ble_eq_true rfl) rfl rfl (by decide) rfl (by decide) (by decide) ?_
  rintro r_6 w rfl
  refine k_ws [(cO5_riiiiiiii h0 nr xsnapped xmostSlip xslip xisDrawn xseed xtick xmotorTick xahead), (cO8_iiri nr 8 10 nrc nrn), (cAI g nrc 80 nrf)] rfl ?_
  refine k_iadd X dX5_waste_16 ?_
  refine k_nm (fun z_8 ez_8 => ?_)
  exact k_iret X hr dX5_waste_17 (Nat.le_of_ble_eq_true rfl) (Nat.le_of_ble_eq_true rfl) [0, 1, 2] (by decide) rfl rfl rfl

theorem dX5_endTick_0 : decode cX5_endTick 0 = .ok (.aload_n 0, 1) := dk_42 rfl
theorem dX5_endTick_1 : decode cX5_endTick 1 = .ok (.getfield 14, 3) := dk_180 rfl rfl rfl rfl
theorem dX5_endTick_4 : decode cX5_endTick 4 = .ok (.aload_n 0, 1) := dk_42 rfl
theorem dX5_endTick_5 : decode cX5_endTick 5 = .ok (.getfield 14, 3) := dk_180 rfl rfl rfl rfl
theorem dX5_endTick_8 : decode cX5_endTick 8 = .ok (.getfield 51, 3) := dk_180 rfl rfl rfl rfl
theorem dX5_endTick_11 : decode cX5_endTick 11 = .ok (.iconst 1, 1) := dk_4 rfl
theorem dX5_endTick_12 : decode cX5_endTick 12 = .ok (.isub, 1) := dk_100 rfl
theorem dX5_endTick_13 : decode cX5_endTick 13 = .ok (.bipush 7, 2) := dk_16 rfl rfl (by decide)
theorem dX5_endTick_15 : decode cX5_endTick 15 = .ok (.invokevirtual 59, 3) := dk_182 rfl rfl rfl rfl
theorem dX5_endTick_18 : decode cX5_endTick 18 = .ok (.ireturn, 1) := dk_172 rfl
set_option maxHeartbeats 4000000 in
set_option maxRecDepth 100000 in
theorem n_endTick (l : Launch) (g : Gx) (h0 : Nat) (nr : Nat) (xsnapped : Int32) (xmostSlip : Int32) (xslip : Int32) (xisDrawn : Int32) (xseed : Int32) (xtick : Int32) (xmotorTick : Int32) (xahead : Int32) (nrc : Nat) (nrn : Int32) (nrf : Nat → Int32) : cI l g yX5_endTick cX5_endTick 1 (some .int) 1 22 0 0 [.ref h0] [(cO5_riiiiiiii h0 nr xsnapped xmostSlip xslip xisDrawn xseed xtick xmotorTick xahead), (cO8_iiri nr 8 10 nrc nrn), (cAI g nrc 80 nrf)] (fun r w => w = [(cO5_riiiiiiii h0 nr xsnapped xmostSlip xslip xisDrawn xseed xtick xmotorTick xahead), (cO8_iiri nr 8 10 nrc nrn), (cAI g nrc 80 nrf)]) := by
  refine cI.of (by decide) (Nat.le_of_ble_eq_true rfl) ?_
  intro p e s m args below meth c A X hr hi
  refine k_lveq [(0, .ref h0)] rfl ?_
  refine k_aload_n X dX5_endTick_0 0 rfl ?_
  refine k_get (ci := 5) X inlX5 rfl 0 (by decide) dX5_endTick_1 mw125 0 rfl rfl ?_
  refine k_aload_n X dX5_endTick_4 0 rfl ?_
  refine k_get (ci := 5) X inlX5 rfl 0 (by decide) dX5_endTick_5 mw125 0 rfl rfl ?_
  refine k_get (ci := 8) X inlX8 rfl 3 (by decide) dX5_endTick_8 mw754 1 rfl rfl ?_
  refine k_iconst (v := 1) X dX5_endTick_11 (by decide) ?_
  refine k_isub X dX5_endTick_12 ?_
  refine k_nm (fun z_1 ez_1 => ?_)
  refine k_bipush (v := 7) X dX5_endTick_13 (by decide) ?_
  refine k_callVI (n := 2) (As := [.int z_1, .int 7]) (st := []) X [(cO8_iiri nr 8 10 nrc nrn), (cAI g nrc 80 nrf)] [(cO5_riiiiiiii h0 nr xsnapped xmostSlip xslip xisDrawn xseed xtick xmotorTick xahead)] [1, 2] [0] (t_at l g nr z_1 7 8 10 nrc nrn 80 nrf (tbk_8_10)) dX5_endTick_15 mw757 mw376 mw377 mw64 mw378 rfl 8 rfl rfl 0 _ rfl yk_yX8_at_2 rfl (Nat.le_of_ble_eq_true rfl) (Nat.le_of_ble_eq_true rfl) (Nat.le_of_ble_eq_true rfl) (Nat.le_of_ble_eq_true rfl) (Nat.le_of_ble_eq_true rfl) rfl rfl (by decide) rfl (by decide) (by decide) ?_
  rintro r_2 w ⟨hr_3, rfl⟩
  refine k_ws [(cO5_riiiiiiii h0 nr xsnapped xmostSlip xslip xisDrawn xseed xtick xmotorTick xahead), (cO8_iiri nr 8 10 nrc nrn), (cAI g nrc 80 nrf)] rfl ?_
  exact k_iret X hr dX5_endTick_18 (Nat.le_of_ble_eq_true rfl) (Nat.le_of_ble_eq_true rfl) [0, 1, 2] (by decide) rfl rfl rfl

theorem dX5_worstChange_0 : decode cX5_worstChange 0 = .ok (.iconst 0, 1) := dk_3 rfl
theorem dX5_worstChange_1 : decode cX5_worstChange 1 = .ok (.istore_n 1, 1) := dk_60 rfl
theorem dX5_worstChange_2 : decode cX5_worstChange 2 = .ok (.iconst (-1), 1) := dk_2 rfl
theorem dX5_worstChange_3 : decode cX5_worstChange 3 = .ok (.istore_n 2, 1) := dk_61 rfl
theorem dX5_worstChange_4 : decode cX5_worstChange 4 = .ok (.iconst 1, 1) := dk_4 rfl
theorem dX5_worstChange_5 : decode cX5_worstChange 5 = .ok (.istore_n 3, 1) := dk_62 rfl
theorem dX5_worstChange_6 : decode cX5_worstChange 6 = .ok (.iload_n 3, 1) := dk_29 rfl
theorem dX5_worstChange_7 : decode cX5_worstChange 7 = .ok (.aload_n 0, 1) := dk_42 rfl
theorem dX5_worstChange_8 : decode cX5_worstChange 8 = .ok (.getfield 14, 3) := dk_180 rfl rfl rfl rfl
theorem dX5_worstChange_11 : decode cX5_worstChange 11 = .ok (.getfield 51, 3) := dk_180 rfl rfl rfl rfl
theorem dX5_worstChange_14 : decode cX5_worstChange 14 = .ok (.if_icmp .ge 53, 3) := dk_162 rfl rfl rfl (by decide)
theorem dX5_worstChange_17 : decode cX5_worstChange 17 = .ok (.aload_n 0, 1) := dk_42 rfl
theorem dX5_worstChange_18 : decode cX5_worstChange 18 = .ok (.getfield 14, 3) := dk_180 rfl rfl rfl rfl
theorem dX5_worstChange_21 : decode cX5_worstChange 21 = .ok (.iload_n 3, 1) := dk_29 rfl
theorem dX5_worstChange_22 : decode cX5_worstChange 22 = .ok (.iconst 0, 1) := dk_3 rfl
theorem dX5_worstChange_23 : decode cX5_worstChange 23 = .ok (.invokevirtual 59, 3) := dk_182 rfl rfl rfl rfl
theorem dX5_worstChange_26 : decode cX5_worstChange 26 = .ok (.aload_n 0, 1) := dk_42 rfl
theorem dX5_worstChange_27 : decode cX5_worstChange 27 = .ok (.getfield 14, 3) := dk_180 rfl rfl rfl rfl
theorem dX5_worstChange_30 : decode cX5_worstChange 30 = .ok (.iload_n 3, 1) := dk_29 rfl
theorem dX5_worstChange_31 : decode cX5_worstChange 31 = .ok (.iconst 1, 1) := dk_4 rfl
theorem dX5_worstChange_32 : decode cX5_worstChange 32 = .ok (.invokevirtual 59, 3) := dk_182 rfl rfl rfl rfl
theorem dX5_worstChange_35 : decode cX5_worstChange 35 = .ok (.iadd, 1) := dk_96 rfl
theorem dX5_worstChange_36 : decode cX5_worstChange 36 = .ok (.aload_n 0, 1) := dk_42 rfl
theorem dX5_worstChange_37 : decode cX5_worstChange 37 = .ok (.getfield 14, 3) := dk_180 rfl rfl rfl rfl
theorem dX5_worstChange_40 : decode cX5_worstChange 40 = .ok (.iload_n 3, 1) := dk_29 rfl
theorem dX5_worstChange_41 : decode cX5_worstChange 41 = .ok (.iconst 1, 1) := dk_4 rfl
theorem dX5_worstChange_42 : decode cX5_worstChange 42 = .ok (.isub, 1) := dk_100 rfl
theorem dX5_worstChange_43 : decode cX5_worstChange 43 = .ok (.iconst 2, 1) := dk_5 rfl
theorem dX5_worstChange_44 : decode cX5_worstChange 44 = .ok (.invokevirtual 59, 3) := dk_182 rfl rfl rfl rfl
theorem dX5_worstChange_47 : decode cX5_worstChange 47 = .ok (.iadd, 1) := dk_96 rfl
theorem dX5_worstChange_48 : decode cX5_worstChange 48 = .ok (.istore 4, 2) := dk_54 rfl rfl rfl
theorem dX5_worstChange_50 : decode cX5_worstChange 50 = .ok (.iload 4, 2) := dk_21 rfl rfl rfl
theorem dX5_worstChange_52 : decode cX5_worstChange 52 = .ok (.iload_n 2, 1) := dk_28 rfl
theorem dX5_worstChange_53 : decode cX5_worstChange 53 = .ok (.if_icmp .le 8, 3) := dk_164 rfl rfl rfl (by decide)
theorem dX5_worstChange_56 : decode cX5_worstChange 56 = .ok (.iload 4, 2) := dk_21 rfl rfl rfl
theorem dX5_worstChange_58 : decode cX5_worstChange 58 = .ok (.istore_n 2, 1) := dk_61 rfl
theorem dX5_worstChange_59 : decode cX5_worstChange 59 = .ok (.iload_n 3, 1) := dk_29 rfl
theorem dX5_worstChange_60 : decode cX5_worstChange 60 = .ok (.istore_n 1, 1) := dk_60 rfl
theorem dX5_worstChange_61 : decode cX5_worstChange 61 = .ok (.iinc 3 1, 3) := dk_132 rfl rfl rfl rfl (by decide)
theorem dX5_worstChange_64 : decode cX5_worstChange 64 = .ok (.goto (-58), 3) := dk_167 rfl rfl rfl (by decide)
theorem dX5_worstChange_67 : decode cX5_worstChange 67 = .ok (.iload_n 1, 1) := dk_27 rfl
theorem dX5_worstChange_68 : decode cX5_worstChange 68 = .ok (.ireturn, 1) := dk_172 rfl
set_option maxHeartbeats 4000000 in
set_option maxRecDepth 100000 in
theorem n_worst (l : Launch) (g : Gx) (h0 : Nat) (nr : Nat) (xsnapped : Int32) (xmostSlip : Int32) (xslip : Int32) (xisDrawn : Int32) (xseed : Int32) (xtick : Int32) (xmotorTick : Int32) (xahead : Int32) (nrc : Nat) (nrn : Int32) (nrf : Nat → Int32) : cI l g yX5_worstChange cX5_worstChange 5 (some .int) 1 22 0 0 [.ref h0] [(cO5_riiiiiiii h0 nr xsnapped xmostSlip xslip xisDrawn xseed xtick xmotorTick xahead), (cO8_iiri nr 8 10 nrc nrn), (cAI g nrc 80 nrf)] (fun r w => w = [(cO5_riiiiiiii h0 nr xsnapped xmostSlip xslip xisDrawn xseed xtick xmotorTick xahead), (cO8_iiri nr 8 10 nrc nrn), (cAI g nrc 80 nrf)]) := by
  refine cI.of (by decide) (Nat.le_of_ble_eq_true rfl) ?_
  intro p e s m args below meth c A X hr hi
  refine k_lveq [(0, .ref h0)] rfl ?_
  refine k_iconst (v := 0) X dX5_worstChange_0 (by decide) ?_
  refine k_istore_n [(1, .int 0), (0, .ref h0)] X dX5_worstChange_1 (by decide) rfl ?_
  refine k_iconst (v := -1) X dX5_worstChange_2 (by decide) ?_
  refine k_istore_n [(2, .int (-1)), (1, .int 0), (0, .ref h0)] X dX5_worstChange_3 (by decide) rfl ?_
  refine k_iconst (v := 1) X dX5_worstChange_4 (by decide) ?_
  refine k_istore_n [(3, .int 1), (2, .int (-1)), (1, .int 0), (0, .ref h0)] X dX5_worstChange_5 (by decide) rfl ?_
  refine (fun hL : ∀ (nn_4 : Nat) (u_1 : Int32) (u_2 : Int32) (u_3 : Int32), (nrn.toInt - u_1.toInt).toNat = nn_4 → Wk p l e _ s m args below meth c _ A g _ _ _ [(cO5_riiiiiiii h0 nr xsnapped xmostSlip xslip xisDrawn xseed xtick xmotorTick xahead), (cO8_iiri nr 8 10 nrc nrn), (cAI g nrc 80 nrf)] [(3, .int u_1), (2, .int u_2), (1, .int u_3), (0, .ref h0)] 6 [] => hL _ 1 ((-1)) 0 rfl ) ?_
  refine fun nn_4 => Nat.strongRecOn nn_4 (fun nn_4 ih_6 => ?_)
  intro u_1 u_2 u_3 hm_5 
  refine k_iload_n X dX5_worstChange_6 0 rfl ?_
  refine k_aload_n X dX5_worstChange_7 3 rfl ?_
  refine k_get (ci := 5) X inlX5 rfl 0 (by decide) dX5_worstChange_8 mw125 0 rfl rfl ?_
  refine k_get (ci := 8) X inlX8 rfl 3 (by decide) dX5_worstChange_11 mw754 1 rfl rfl ?_
  refine k_ic_ge 67 X dX5_worstChange_14 (by decide) (fun h_7 => ?_) (fun h_7 => ?_)
  · skip
    refine k_iload_n X dX5_worstChange_67 2 rfl ?_
    exact k_iret X hr dX5_worstChange_68 (Nat.le_of_ble_eq_true rfl) (Nat.le_of_ble_eq_true rfl) [0, 1, 2] (by decide) rfl rfl rfl
  · skip
    refine k_aload_n X dX5_worstChange_17 3 rfl ?_
    refine k_get (ci := 5) X inlX5 rfl 0 (by decide) dX5_worstChange_18 mw125 0 rfl rfl ?_
    refine k_iload_n X dX5_worstChange_21 0 rfl ?_
    refine k_iconst (v := 0) X dX5_worstChange_22 (by decide) ?_
    refine k_callVI (n := 2) (As := [.int u_1, .int 0]) (st := []) X [(cO8_iiri nr 8 10 nrc nrn), (cAI g nrc 80 nrf)] [(cO5_riiiiiiii h0 nr xsnapped xmostSlip xslip xisDrawn xseed xtick xmotorTick xahead)] [1, 2] [0] (t_at l g nr u_1 0 8 10 nrc nrn 80 nrf (tbk_8_10)) dX5_worstChange_23 mw757 mw376 mw377 mw64 mw378 rfl 8 rfl rfl 0 _ rfl yk_yX8_at_2 rfl (Nat.le_of_ble_eq_true rfl) (Nat.le_of_ble_eq_true rfl) (Nat.le_of_ble_eq_true rfl) (Nat.le_of_ble_eq_true rfl) (Nat.le_of_ble_eq_true rfl) rfl rfl (by decide) rfl (by decide) (by decide) ?_
    rintro r_8 w ⟨hr_9, rfl⟩
    refine k_ws [(cO5_riiiiiiii h0 nr xsnapped xmostSlip xslip xisDrawn xseed xtick xmotorTick xahead), (cO8_iiri nr 8 10 nrc nrn), (cAI g nrc 80 nrf)] rfl ?_
    refine k_aload_n X dX5_worstChange_26 3 rfl ?_
    refine k_get (ci := 5) X inlX5 rfl 0 (by decide) dX5_worstChange_27 mw125 0 rfl rfl ?_
    refine k_iload_n X dX5_worstChange_30 0 rfl ?_
    refine k_iconst (v := 1) X dX5_worstChange_31 (by decide) ?_
    refine k_callVI (n := 2) (As := [.int u_1, .int 1]) (st := [.int r_8]) X [(cO8_iiri nr 8 10 nrc nrn), (cAI g nrc 80 nrf)] [(cO5_riiiiiiii h0 nr xsnapped xmostSlip xslip xisDrawn xseed xtick xmotorTick xahead)] [1, 2] [0] (t_at l g nr u_1 1 8 10 nrc nrn 80 nrf (tbk_8_10)) dX5_worstChange_32 mw757 mw376 mw377 mw64 mw378 rfl 8 rfl rfl 0 _ rfl yk_yX8_at_2 rfl (Nat.le_of_ble_eq_true rfl) (Nat.le_of_ble_eq_true rfl) (Nat.le_of_ble_eq_true rfl) (Nat.le_of_ble_eq_true rfl) (Nat.le_of_ble_eq_true rfl) rfl rfl (by decide) rfl (by decide) (by decide) ?_
    rintro r_10 w ⟨hr_11, rfl⟩
    refine k_ws [(cO5_riiiiiiii h0 nr xsnapped xmostSlip xslip xisDrawn xseed xtick xmotorTick xahead), (cO8_iiri nr 8 10 nrc nrn), (cAI g nrc 80 nrf)] rfl ?_
    refine k_iadd X dX5_worstChange_35 ?_
    refine k_nm (fun z_12 ez_12 => ?_)
    refine k_aload_n X dX5_worstChange_36 3 rfl ?_
    refine k_get (ci := 5) X inlX5 rfl 0 (by decide) dX5_worstChange_37 mw125 0 rfl rfl ?_
    refine k_iload_n X dX5_worstChange_40 0 rfl ?_
    refine k_iconst (v := 1) X dX5_worstChange_41 (by decide) ?_
    refine k_isub X dX5_worstChange_42 ?_
    refine k_nm (fun z_13 ez_13 => ?_)
    refine k_iconst (v := 2) X dX5_worstChange_43 (by decide) ?_
    refine k_callVI (n := 2) (As := [.int z_13, .int 2]) (st := [.int z_12]) X [(cO8_iiri nr 8 10 nrc nrn), (cAI g nrc 80 nrf)] [(cO5_riiiiiiii h0 nr xsnapped xmostSlip xslip xisDrawn xseed xtick xmotorTick xahead)] [1, 2] [0] (t_at l g nr z_13 2 8 10 nrc nrn 80 nrf (tbk_8_10)) dX5_worstChange_44 mw757 mw376 mw377 mw64 mw378 rfl 8 rfl rfl 0 _ rfl yk_yX8_at_2 rfl (Nat.le_of_ble_eq_true rfl) (Nat.le_of_ble_eq_true rfl) (Nat.le_of_ble_eq_true rfl) (Nat.le_of_ble_eq_true rfl) (Nat.le_of_ble_eq_true rfl) rfl rfl (by decide) rfl (by decide) (by decide) ?_
    rintro r_14 w ⟨hr_15, rfl⟩
    refine k_ws [(cO5_riiiiiiii h0 nr xsnapped xmostSlip xslip xisDrawn xseed xtick xmotorTick xahead), (cO8_iiri nr 8 10 nrc nrn), (cAI g nrc 80 nrf)] rfl ?_
    refine k_iadd X dX5_worstChange_47 ?_
    refine k_nm (fun z_16 ez_16 => ?_)
    refine k_istore [(4, .int z_16), (3, .int u_1), (2, .int u_2), (1, .int u_3), (0, .ref h0)] X dX5_worstChange_48 (by decide) rfl ?_
    refine k_iload X dX5_worstChange_50 0 rfl ?_
    refine k_iload_n X dX5_worstChange_52 2 rfl ?_
    refine k_ic_le 61 X dX5_worstChange_53 (by decide) (fun h_17 => ?_) (fun h_17 => ?_)
    · skip
      obtain ⟨z_18, ez_18⟩ : ∃ y : Int32, u_1 + Int32.ofInt 1 = y := ⟨_, rfl⟩
      refine k_iinc z_18 [(3, .int z_18), (4, .int z_16), (2, .int u_2), (1, .int u_3), (0, .ref h0)] 1 X dX5_worstChange_61 rfl ez_18 (by decide) rfl ?_
      refine k_goto 6 X dX5_worstChange_64 (by decide) ?_
      refine k_lv [(3, .int z_18), (2, .int u_2), (1, .int u_3), (0, .ref h0)] [0, 2, 3, 4] rfl ?_
      exact ih_6 _ (by rw [← hm_5]; exact mu_lt (by assumption) (by assumption)) z_18 u_2 u_3 rfl 
    · skip
      refine k_iload X dX5_worstChange_56 0 rfl ?_
      refine k_istore_n [(2, .int z_16), (4, .int z_16), (3, .int u_1), (1, .int u_3), (0, .ref h0)] X dX5_worstChange_58 (by decide) rfl ?_
      refine k_iload_n X dX5_worstChange_59 2 rfl ?_
      refine k_istore_n [(1, .int u_1), (2, .int z_16), (4, .int z_16), (3, .int u_1), (0, .ref h0)] X dX5_worstChange_60 (by decide) rfl ?_
      obtain ⟨z_19, ez_19⟩ : ∃ y : Int32, u_1 + Int32.ofInt 1 = y := ⟨_, rfl⟩
      refine k_iinc z_19 [(3, .int z_19), (1, .int u_1), (2, .int z_16), (4, .int z_16), (0, .ref h0)] 3 X dX5_worstChange_61 rfl ez_19 (by decide) rfl ?_
      refine k_goto 6 X dX5_worstChange_64 (by decide) ?_
      refine k_lv [(3, .int z_19), (2, .int z_16), (1, .int u_1), (0, .ref h0)] [0, 2, 1, 4] rfl ?_
      exact ih_6 _ (by rw [← hm_5]; exact mu_lt (by assumption) (by assumption)) z_19 z_16 u_1 rfl 

theorem dX5_needed_0 : decode cX5_needed 0 = .ok (.aload_n 0, 1) := dk_42 rfl
theorem dX5_needed_1 : decode cX5_needed 1 = .ok (.getfield 14, 3) := dk_180 rfl rfl rfl rfl
theorem dX5_needed_4 : decode cX5_needed 4 = .ok (.iload_n 1, 1) := dk_27 rfl
theorem dX5_needed_5 : decode cX5_needed 5 = .ok (.bipush 7, 2) := dk_16 rfl rfl (by decide)
theorem dX5_needed_7 : decode cX5_needed 7 = .ok (.invokevirtual 59, 3) := dk_182 rfl rfl rfl rfl
theorem dX5_needed_10 : decode cX5_needed 10 = .ok (.aload_n 0, 1) := dk_42 rfl
theorem dX5_needed_11 : decode cX5_needed 11 = .ok (.getfield 14, 3) := dk_180 rfl rfl rfl rfl
theorem dX5_needed_14 : decode cX5_needed 14 = .ok (.iload_n 1, 1) := dk_27 rfl
theorem dX5_needed_15 : decode cX5_needed 15 = .ok (.bipush 8, 2) := dk_16 rfl rfl (by decide)
theorem dX5_needed_17 : decode cX5_needed 17 = .ok (.invokevirtual 59, 3) := dk_182 rfl rfl rfl rfl
theorem dX5_needed_20 : decode cX5_needed 20 = .ok (.isub, 1) := dk_100 rfl
theorem dX5_needed_21 : decode cX5_needed 21 = .ok (.ireturn, 1) := dk_172 rfl
set_option maxHeartbeats 4000000 in
set_option maxRecDepth 100000 in
theorem n_needed (l : Launch) (g : Gx) (h0 : Nat) (p0 : Int32) (nr : Nat) (xsnapped : Int32) (xmostSlip : Int32) (xslip : Int32) (xisDrawn : Int32) (xseed : Int32) (xtick : Int32) (xmotorTick : Int32) (xahead : Int32) (nrc : Nat) (nrn : Int32) (nrf : Nat → Int32) : cI l g yX5_needed cX5_needed 2 (some .int) 1 22 0 0 [.ref h0, .int p0] [(cO5_riiiiiiii h0 nr xsnapped xmostSlip xslip xisDrawn xseed xtick xmotorTick xahead), (cO8_iiri nr 8 10 nrc nrn), (cAI g nrc 80 nrf)] (fun r w => w = [(cO5_riiiiiiii h0 nr xsnapped xmostSlip xslip xisDrawn xseed xtick xmotorTick xahead), (cO8_iiri nr 8 10 nrc nrn), (cAI g nrc 80 nrf)]) := by
  refine cI.of (by decide) (Nat.le_of_ble_eq_true rfl) ?_
  intro p e s m args below meth c A X hr hi
  refine k_lveq [(0, .ref h0), (1, .int p0)] rfl ?_
  refine k_aload_n X dX5_needed_0 0 rfl ?_
  refine k_get (ci := 5) X inlX5 rfl 0 (by decide) dX5_needed_1 mw125 0 rfl rfl ?_
  refine k_iload_n X dX5_needed_4 1 rfl ?_
  refine k_bipush (v := 7) X dX5_needed_5 (by decide) ?_
  refine k_callVI (n := 2) (As := [.int p0, .int 7]) (st := []) X [(cO8_iiri nr 8 10 nrc nrn), (cAI g nrc 80 nrf)] [(cO5_riiiiiiii h0 nr xsnapped xmostSlip xslip xisDrawn xseed xtick xmotorTick xahead)] [1, 2] [0] (t_at l g nr p0 7 8 10 nrc nrn 80 nrf (tbk_8_10)) dX5_needed_7 mw757 mw376 mw377 mw64 mw378 rfl 8 rfl rfl 0 _ rfl yk_yX8_at_2 rfl (Nat.le_of_ble_eq_true rfl) (Nat.le_of_ble_eq_true rfl) (Nat.le_of_ble_eq_true rfl) (Nat.le_of_ble_eq_true rfl) (Nat.le_of_ble_eq_true rfl) rfl rfl (by decide) rfl (by decide) (by decide) ?_
  rintro r_1 w ⟨hr_2, rfl⟩
  refine k_ws [(cO5_riiiiiiii h0 nr xsnapped xmostSlip xslip xisDrawn xseed xtick xmotorTick xahead), (cO8_iiri nr 8 10 nrc nrn), (cAI g nrc 80 nrf)] rfl ?_
  refine k_aload_n X dX5_needed_10 0 rfl ?_
  refine k_get (ci := 5) X inlX5 rfl 0 (by decide) dX5_needed_11 mw125 0 rfl rfl ?_
  refine k_iload_n X dX5_needed_14 1 rfl ?_
  refine k_bipush (v := 8) X dX5_needed_15 (by decide) ?_
  refine k_callVI (n := 2) (As := [.int p0, .int 8]) (st := [.int r_1]) X [(cO8_iiri nr 8 10 nrc nrn), (cAI g nrc 80 nrf)] [(cO5_riiiiiiii h0 nr xsnapped xmostSlip xslip xisDrawn xseed xtick xmotorTick xahead)] [1, 2] [0] (t_at l g nr p0 8 8 10 nrc nrn 80 nrf (tbk_8_10)) dX5_needed_17 mw757 mw376 mw377 mw64 mw378 rfl 8 rfl rfl 0 _ rfl yk_yX8_at_2 rfl (Nat.le_of_ble_eq_true rfl) (Nat.le_of_ble_eq_true rfl) (Nat.le_of_ble_eq_true rfl) (Nat.le_of_ble_eq_true rfl) (Nat.le_of_ble_eq_true rfl) rfl rfl (by decide) rfl (by decide) (by decide) ?_
  rintro r_3 w ⟨hr_4, rfl⟩
  refine k_ws [(cO5_riiiiiiii h0 nr xsnapped xmostSlip xslip xisDrawn xseed xtick xmotorTick xahead), (cO8_iiri nr 8 10 nrc nrn), (cAI g nrc 80 nrf)] rfl ?_
  refine k_isub X dX5_needed_20 ?_
  refine k_nm (fun z_5 ez_5 => ?_)
  exact k_iret X hr dX5_needed_21 (Nat.le_of_ble_eq_true rfl) (Nat.le_of_ble_eq_true rfl) [0, 1, 2] (by decide) rfl rfl rfl

theorem dX5_idle_0 : decode cX5_idle 0 = .ok (.iload_n 1, 1) := dk_27 rfl
theorem dX5_idle_1 : decode cX5_idle 1 = .ok (.iconst 2, 1) := dk_5 rfl
theorem dX5_idle_2 : decode cX5_idle 2 = .ok (.if_icmp .ge 8, 3) := dk_162 rfl rfl rfl (by decide)
theorem dX5_idle_5 : decode cX5_idle 5 = .ok (.bipush (-2), 2) := dk_16 rfl rfl (by decide)
theorem dX5_idle_7 : decode cX5_idle 7 = .ok (.goto 26, 3) := dk_167 rfl rfl rfl (by decide)
theorem dX5_idle_10 : decode cX5_idle 10 = .ok (.aload_n 0, 1) := dk_42 rfl
theorem dX5_idle_11 : decode cX5_idle 11 = .ok (.getfield 14, 3) := dk_180 rfl rfl rfl rfl
theorem dX5_idle_14 : decode cX5_idle 14 = .ok (.iload_n 1, 1) := dk_27 rfl
theorem dX5_idle_15 : decode cX5_idle 15 = .ok (.bipush 8, 2) := dk_16 rfl rfl (by decide)
theorem dX5_idle_17 : decode cX5_idle 17 = .ok (.invokevirtual 59, 3) := dk_182 rfl rfl rfl rfl
theorem dX5_idle_20 : decode cX5_idle 20 = .ok (.aload_n 0, 1) := dk_42 rfl
theorem dX5_idle_21 : decode cX5_idle 21 = .ok (.getfield 14, 3) := dk_180 rfl rfl rfl rfl
theorem dX5_idle_24 : decode cX5_idle 24 = .ok (.iload_n 1, 1) := dk_27 rfl
theorem dX5_idle_25 : decode cX5_idle 25 = .ok (.iconst 2, 1) := dk_5 rfl
theorem dX5_idle_26 : decode cX5_idle 26 = .ok (.isub, 1) := dk_100 rfl
theorem dX5_idle_27 : decode cX5_idle 27 = .ok (.bipush 7, 2) := dk_16 rfl rfl (by decide)
theorem dX5_idle_29 : decode cX5_idle 29 = .ok (.invokevirtual 59, 3) := dk_182 rfl rfl rfl rfl
theorem dX5_idle_32 : decode cX5_idle 32 = .ok (.isub, 1) := dk_100 rfl
theorem dX5_idle_33 : decode cX5_idle 33 = .ok (.ireturn, 1) := dk_172 rfl
set_option maxHeartbeats 4000000 in
set_option maxRecDepth 100000 in
theorem n_idle (l : Launch) (g : Gx) (h0 : Nat) (p0 : Int32) (nr : Nat) (xsnapped : Int32) (xmostSlip : Int32) (xslip : Int32) (xisDrawn : Int32) (xseed : Int32) (xtick : Int32) (xmotorTick : Int32) (xahead : Int32) (nrc : Nat) (nrn : Int32) (nrf : Nat → Int32) : cI l g yX5_idle cX5_idle 2 (some .int) 1 22 0 0 [.ref h0, .int p0] [(cO5_riiiiiiii h0 nr xsnapped xmostSlip xslip xisDrawn xseed xtick xmotorTick xahead), (cO8_iiri nr 8 10 nrc nrn), (cAI g nrc 80 nrf)] (fun r w => w = [(cO5_riiiiiiii h0 nr xsnapped xmostSlip xslip xisDrawn xseed xtick xmotorTick xahead), (cO8_iiri nr 8 10 nrc nrn), (cAI g nrc 80 nrf)]) := by
  refine cI.of (by decide) (Nat.le_of_ble_eq_true rfl) ?_
  intro p e s m args below meth c A X hr hi
  refine k_lveq [(0, .ref h0), (1, .int p0)] rfl ?_
  refine k_iload_n X dX5_idle_0 1 rfl ?_
  refine k_iconst (v := 2) X dX5_idle_1 (by decide) ?_
  refine k_ic_ge 10 X dX5_idle_2 (by decide) (fun h_1 => ?_) (fun h_1 => ?_)
  · skip
    refine k_aload_n X dX5_idle_10 0 rfl ?_
    refine k_get (ci := 5) X inlX5 rfl 0 (by decide) dX5_idle_11 mw125 0 rfl rfl ?_
    refine k_iload_n X dX5_idle_14 1 rfl ?_
    refine k_bipush (v := 8) X dX5_idle_15 (by decide) ?_
    refine k_callVI (n := 2) (As := [.int p0, .int 8]) (st := []) X [(cO8_iiri nr 8 10 nrc nrn), (cAI g nrc 80 nrf)] [(cO5_riiiiiiii h0 nr xsnapped xmostSlip xslip xisDrawn xseed xtick xmotorTick xahead)] [1, 2] [0] (t_at l g nr p0 8 8 10 nrc nrn 80 nrf (tbk_8_10)) dX5_idle_17 mw757 mw376 mw377 mw64 mw378 rfl 8 rfl rfl 0 _ rfl yk_yX8_at_2 rfl (Nat.le_of_ble_eq_true rfl) (Nat.le_of_ble_eq_true rfl) (Nat.le_of_ble_eq_true rfl) (Nat.le_of_ble_eq_true rfl) (Nat.le_of_ble_eq_true rfl) rfl rfl (by decide) rfl (by decide) (by decide) ?_
    rintro r_2 w ⟨hr_3, rfl⟩
    refine k_ws [(cO5_riiiiiiii h0 nr xsnapped xmostSlip xslip xisDrawn xseed xtick xmotorTick xahead), (cO8_iiri nr 8 10 nrc nrn), (cAI g nrc 80 nrf)] rfl ?_
    refine k_aload_n X dX5_idle_20 0 rfl ?_
    refine k_get (ci := 5) X inlX5 rfl 0 (by decide) dX5_idle_21 mw125 0 rfl rfl ?_
    refine k_iload_n X dX5_idle_24 1 rfl ?_
    refine k_iconst (v := 2) X dX5_idle_25 (by decide) ?_
    refine k_isub X dX5_idle_26 ?_
    refine k_nm (fun z_4 ez_4 => ?_)
    refine k_bipush (v := 7) X dX5_idle_27 (by decide) ?_
    refine k_callVI (n := 2) (As := [.int z_4, .int 7]) (st := [.int r_2]) X [(cO8_iiri nr 8 10 nrc nrn), (cAI g nrc 80 nrf)] [(cO5_riiiiiiii h0 nr xsnapped xmostSlip xslip xisDrawn xseed xtick xmotorTick xahead)] [1, 2] [0] (t_at l g nr z_4 7 8 10 nrc nrn 80 nrf (tbk_8_10)) dX5_idle_29 mw757 mw376 mw377 mw64 mw378 rfl 8 rfl rfl 0 _ rfl yk_yX8_at_2 rfl (Nat.le_of_ble_eq_true rfl) (Nat.le_of_ble_eq_true rfl) (Nat.le_of_ble_eq_true rfl) (Nat.le_of_ble_eq_true rfl) (Nat.le_of_ble_eq_true rfl) rfl rfl (by decide) rfl (by decide) (by decide) ?_
    rintro r_5 w ⟨hr_6, rfl⟩
    refine k_ws [(cO5_riiiiiiii h0 nr xsnapped xmostSlip xslip xisDrawn xseed xtick xmotorTick xahead), (cO8_iiri nr 8 10 nrc nrn), (cAI g nrc 80 nrf)] rfl ?_
    refine k_isub X dX5_idle_32 ?_
    refine k_nm (fun z_7 ez_7 => ?_)
    exact k_iret X hr dX5_idle_33 (Nat.le_of_ble_eq_true rfl) (Nat.le_of_ble_eq_true rfl) [0, 1, 2] (by decide) rfl rfl rfl
  · skip
    refine k_bipush (v := -2) X dX5_idle_5 (by decide) ?_
    refine k_goto 33 X dX5_idle_7 (by decide) ?_
    exact k_iret X hr dX5_idle_33 (Nat.le_of_ble_eq_true rfl) (Nat.le_of_ble_eq_true rfl) [0, 1, 2] (by decide) rfl rfl rfl

theorem dX3_number_0 : decode cX3_number 0 = .ok (.aload_n 0, 1) := dk_42 rfl
theorem dX3_number_1 : decode cX3_number 1 = .ok (.getfield 21, 3) := dk_180 rfl rfl rfl rfl
theorem dX3_number_4 : decode cX3_number 4 = .ok (.iconst 0, 1) := dk_3 rfl
theorem dX3_number_5 : decode cX3_number 5 = .ok (.iload_n 1, 1) := dk_27 rfl
theorem dX3_number_6 : decode cX3_number 6 = .ok (.invokevirtual 43, 3) := dk_182 rfl rfl rfl rfl
theorem dX3_number_9 : decode cX3_number 9 = .ok (.ireturn, 1) := dk_172 rfl
set_option maxHeartbeats 4000000 in
set_option maxRecDepth 100000 in
theorem h_number (l : Launch) (g : Gx) (h0 : Nat) (p0 : Int32) (v0h0 : Value) (xhn : Nat) (v2h0 : Value) (v3h0 : Value) (v4h0 : Value) (v5h0 : Value) (v6h0 : Value) (v7h0 : Value) (xhnc : Nat) (xhnn : Int32) (xhnf : Nat → Int32) : cI l g yX3_number cX3_number 2 (some .int) 1 22 0 0 [.ref h0, .int p0] [(cO3_vrvvvvvv h0 v0h0 xhn v2h0 v3h0 v4h0 v5h0 v6h0 v7h0), (cO8_iiri xhn 1 6 xhnc xhnn), (cAI g xhnc 6 xhnf)] (fun r w => w = [(cO3_vrvvvvvv h0 v0h0 xhn v2h0 v3h0 v4h0 v5h0 v6h0 v7h0), (cO8_iiri xhn 1 6 xhnc xhnn), (cAI g xhnc 6 xhnf)]) := by
  refine cI.of (by decide) (Nat.le_of_ble_eq_true rfl) ?_
  intro p e s m args below meth c A X hr hi
  refine k_lveq [(0, .ref h0), (1, .int p0)] rfl ?_
  refine k_aload_n X dX3_number_0 0 rfl ?_
  refine k_get (ci := 3) X inlX3 rfl 1 (by decide) dX3_number_1 mw79 0 rfl rfl ?_
  refine k_iconst (v := 0) X dX3_number_4 (by decide) ?_
  refine k_iload_n X dX3_number_5 1 rfl ?_
  refine k_callVI (n := 2) (As := [.int 0, .int p0]) (st := []) X [(cO8_iiri xhn 1 6 xhnc xhnn), (cAI g xhnc 6 xhnf)] [(cO3_vrvvvvvv h0 v0h0 xhn v2h0 v3h0 v4h0 v5h0 v6h0 v7h0)] [1, 2] [0] (t_at l g xhn 0 p0 1 6 xhnc xhnn 6 xhnf (tbk_1_6)) dX3_number_6 mw418 mw376 mw377 mw64 mw378 rfl 8 rfl rfl 0 _ rfl yk_yX8_at_2 rfl (Nat.le_of_ble_eq_true rfl) (Nat.le_of_ble_eq_true rfl) (Nat.le_of_ble_eq_true rfl) (Nat.le_of_ble_eq_true rfl) (Nat.le_of_ble_eq_true rfl) rfl rfl (by decide) rfl (by decide) (by decide) ?_
  rintro r_1 w ⟨hr_2, rfl⟩
  refine k_ws [(cO3_vrvvvvvv h0 v0h0 xhn v2h0 v3h0 v4h0 v5h0 v6h0 v7h0), (cO8_iiri xhn 1 6 xhnc xhnn), (cAI g xhnc 6 xhnf)] rfl ?_
  exact k_iret X hr dX3_number_9 (Nat.le_of_ble_eq_true rfl) (Nat.le_of_ble_eq_true rfl) [0, 1, 2] (by decide) rfl rfl rfl

theorem dX5_exactThread_0 : decode cX5_exactThread 0 = .ok (.aload_n 0, 1) := dk_42 rfl
theorem dX5_exactThread_1 : decode cX5_exactThread 1 = .ok (.getfield 14, 3) := dk_180 rfl rfl rfl rfl
theorem dX5_exactThread_4 : decode cX5_exactThread 4 = .ok (.iload_n 2, 1) := dk_28 rfl
theorem dX5_exactThread_5 : decode cX5_exactThread 5 = .ok (.iconst 1, 1) := dk_4 rfl
theorem dX5_exactThread_6 : decode cX5_exactThread 6 = .ok (.isub, 1) := dk_100 rfl
theorem dX5_exactThread_7 : decode cX5_exactThread 7 = .ok (.iconst 3, 1) := dk_6 rfl
theorem dX5_exactThread_8 : decode cX5_exactThread 8 = .ok (.invokevirtual 59, 3) := dk_182 rfl rfl rfl rfl
theorem dX5_exactThread_11 : decode cX5_exactThread 11 = .ok (.iconst 1, 1) := dk_4 rfl
theorem dX5_exactThread_12 : decode cX5_exactThread 12 = .ok (.if_icmp .ne 6, 3) := dk_160 rfl rfl rfl (by decide)
theorem dX5_exactThread_15 : decode cX5_exactThread 15 = .ok (.bipush (-2), 2) := dk_16 rfl rfl (by decide)
theorem dX5_exactThread_17 : decode cX5_exactThread 17 = .ok (.ireturn, 1) := dk_172 rfl
theorem dX5_exactThread_18 : decode cX5_exactThread 18 = .ok (.aload_n 0, 1) := dk_42 rfl
theorem dX5_exactThread_19 : decode cX5_exactThread 19 = .ok (.getfield 14, 3) := dk_180 rfl rfl rfl rfl
theorem dX5_exactThread_22 : decode cX5_exactThread 22 = .ok (.iload_n 2, 1) := dk_28 rfl
theorem dX5_exactThread_23 : decode cX5_exactThread 23 = .ok (.iconst 1, 1) := dk_4 rfl
theorem dX5_exactThread_24 : decode cX5_exactThread 24 = .ok (.isub, 1) := dk_100 rfl
theorem dX5_exactThread_25 : decode cX5_exactThread 25 = .ok (.iconst 5, 1) := dk_8 rfl
theorem dX5_exactThread_26 : decode cX5_exactThread 26 = .ok (.invokevirtual 59, 3) := dk_182 rfl rfl rfl rfl
theorem dX5_exactThread_29 : decode cX5_exactThread 29 = .ok (.aload_n 0, 1) := dk_42 rfl
theorem dX5_exactThread_30 : decode cX5_exactThread 30 = .ok (.getfield 14, 3) := dk_180 rfl rfl rfl rfl
theorem dX5_exactThread_33 : decode cX5_exactThread 33 = .ok (.iload_n 2, 1) := dk_28 rfl
theorem dX5_exactThread_34 : decode cX5_exactThread 34 = .ok (.iconst 1, 1) := dk_4 rfl
theorem dX5_exactThread_35 : decode cX5_exactThread 35 = .ok (.isub, 1) := dk_100 rfl
theorem dX5_exactThread_36 : decode cX5_exactThread 36 = .ok (.iconst 4, 1) := dk_7 rfl
theorem dX5_exactThread_37 : decode cX5_exactThread 37 = .ok (.invokevirtual 59, 3) := dk_182 rfl rfl rfl rfl
theorem dX5_exactThread_40 : decode cX5_exactThread 40 = .ok (.isub, 1) := dk_100 rfl
theorem dX5_exactThread_41 : decode cX5_exactThread 41 = .ok (.istore_n 3, 1) := dk_62 rfl
theorem dX5_exactThread_42 : decode cX5_exactThread 42 = .ok (.iconst 0, 1) := dk_3 rfl
theorem dX5_exactThread_43 : decode cX5_exactThread 43 = .ok (.iload_n 3, 1) := dk_29 rfl
theorem dX5_exactThread_44 : decode cX5_exactThread 44 = .ok (.aload_n 1, 1) := dk_43 rfl
theorem dX5_exactThread_45 : decode cX5_exactThread 45 = .ok (.iconst 1, 1) := dk_4 rfl
theorem dX5_exactThread_46 : decode cX5_exactThread 46 = .ok (.invokevirtual 101, 3) := dk_182 rfl rfl rfl rfl
theorem dX5_exactThread_49 : decode cX5_exactThread 49 = .ok (.isub, 1) := dk_100 rfl
theorem dX5_exactThread_50 : decode cX5_exactThread 50 = .ok (.sipush 199, 3) := dk_17 rfl rfl rfl (by decide)
theorem dX5_exactThread_53 : decode cX5_exactThread 53 = .ok (.invokestatic 98, 3) := dk_184 rfl rfl rfl rfl
theorem dX5_exactThread_56 : decode cX5_exactThread 56 = .ok (.invokestatic 63, 3) := dk_184 rfl rfl rfl rfl
theorem dX5_exactThread_59 : decode cX5_exactThread 59 = .ok (.ireturn, 1) := dk_172 rfl
set_option maxHeartbeats 4000000 in
set_option maxRecDepth 100000 in
theorem n_exact (l : Launch) (g : Gx) (h0 : Nat) (hh : Nat) (p0 : Int32) (nr : Nat) (xsnapped : Int32) (xmostSlip : Int32) (xslip : Int32) (xisDrawn : Int32) (xseed : Int32) (xtick : Int32) (xmotorTick : Int32) (xahead : Int32) (nrc : Nat) (nrn : Int32) (nrf : Nat → Int32) (v0hh : Value) (yhn : Nat) (v2hh : Value) (v3hh : Value) (v4hh : Value) (v5hh : Value) (v6hh : Value) (v7hh : Value) (yhnc : Nat) (yhnn : Int32) (yhnf : Nat → Int32) : cI l g yX5_exactThread cX5_exactThread 4 (some .int) 2 43 0 0 [.ref h0, .ref hh, .int p0] [(cO5_riiiiiiii h0 nr xsnapped xmostSlip xslip xisDrawn xseed xtick xmotorTick xahead), (cO8_iiri nr 8 10 nrc nrn), (cAI g nrc 80 nrf), (cO3_vrvvvvvv hh v0hh yhn v2hh v3hh v4hh v5hh v6hh v7hh), (cO8_iiri yhn 1 6 yhnc yhnn), (cAI g yhnc 6 yhnf)] (fun r w => w = [(cO5_riiiiiiii h0 nr xsnapped xmostSlip xslip xisDrawn xseed xtick xmotorTick xahead), (cO8_iiri nr 8 10 nrc nrn), (cAI g nrc 80 nrf), (cO3_vrvvvvvv hh v0hh yhn v2hh v3hh v4hh v5hh v6hh v7hh), (cO8_iiri yhn 1 6 yhnc yhnn), (cAI g yhnc 6 yhnf)]) := by
  refine cI.of (by decide) (Nat.le_of_ble_eq_true rfl) ?_
  intro p e s m args below meth c A X hr hi
  refine k_lveq [(0, .ref h0), (1, .ref hh), (2, .int p0)] rfl ?_
  refine k_aload_n X dX5_exactThread_0 0 rfl ?_
  refine k_get (ci := 5) X inlX5 rfl 0 (by decide) dX5_exactThread_1 mw125 0 rfl rfl ?_
  refine k_iload_n X dX5_exactThread_4 2 rfl ?_
  refine k_iconst (v := 1) X dX5_exactThread_5 (by decide) ?_
  refine k_isub X dX5_exactThread_6 ?_
  refine k_nm (fun z_1 ez_1 => ?_)
  refine k_iconst (v := 3) X dX5_exactThread_7 (by decide) ?_
  refine k_callVI (n := 2) (As := [.int z_1, .int 3]) (st := []) X [(cO8_iiri nr 8 10 nrc nrn), (cAI g nrc 80 nrf)] [(cO5_riiiiiiii h0 nr xsnapped xmostSlip xslip xisDrawn xseed xtick xmotorTick xahead), (cO3_vrvvvvvv hh v0hh yhn v2hh v3hh v4hh v5hh v6hh v7hh), (cO8_iiri yhn 1 6 yhnc yhnn), (cAI g yhnc 6 yhnf)] [1, 2] [0, 3, 4, 5] (t_at l g nr z_1 3 8 10 nrc nrn 80 nrf (tbk_8_10)) dX5_exactThread_8 mw757 mw376 mw377 mw64 mw378 rfl 8 rfl rfl 0 _ rfl yk_yX8_at_2 rfl (Nat.le_of_ble_eq_true rfl) (Nat.le_of_ble_eq_true rfl) (Nat.le_of_ble_eq_true rfl) (Nat.le_of_ble_eq_true rfl) (Nat.le_of_ble_eq_true rfl) rfl rfl (by decide) rfl (by decide) (by decide) ?_
  rintro r_2 w ⟨hr_3, rfl⟩
  refine k_ws [(cO5_riiiiiiii h0 nr xsnapped xmostSlip xslip xisDrawn xseed xtick xmotorTick xahead), (cO3_vrvvvvvv hh v0hh yhn v2hh v3hh v4hh v5hh v6hh v7hh), (cO8_iiri yhn 1 6 yhnc yhnn), (cAI g yhnc 6 yhnf), (cO8_iiri nr 8 10 nrc nrn), (cAI g nrc 80 nrf)] rfl ?_
  refine k_iconst (v := 1) X dX5_exactThread_11 (by decide) ?_
  refine k_ic_ne 18 X dX5_exactThread_12 (by decide) (fun h_4 => ?_) (fun h_4 => ?_)
  · skip
    refine k_aload_n X dX5_exactThread_18 0 rfl ?_
    refine k_get (ci := 5) X inlX5 rfl 0 (by decide) dX5_exactThread_19 mw125 0 rfl rfl ?_
    refine k_iload_n X dX5_exactThread_22 2 rfl ?_
    refine k_iconst (v := 1) X dX5_exactThread_23 (by decide) ?_
    refine k_isub X dX5_exactThread_24 ?_
    refine k_nm (fun z_5 ez_5 => ?_)
    refine k_iconst (v := 5) X dX5_exactThread_25 (by decide) ?_
    refine k_callVI (n := 2) (As := [.int z_5, .int 5]) (st := []) X [(cO8_iiri nr 8 10 nrc nrn), (cAI g nrc 80 nrf)] [(cO5_riiiiiiii h0 nr xsnapped xmostSlip xslip xisDrawn xseed xtick xmotorTick xahead), (cO3_vrvvvvvv hh v0hh yhn v2hh v3hh v4hh v5hh v6hh v7hh), (cO8_iiri yhn 1 6 yhnc yhnn), (cAI g yhnc 6 yhnf)] [4, 5] [0, 1, 2, 3] (t_at l g nr z_5 5 8 10 nrc nrn 80 nrf (tbk_8_10)) dX5_exactThread_26 mw757 mw376 mw377 mw64 mw378 rfl 8 rfl rfl 0 _ rfl yk_yX8_at_2 rfl (Nat.le_of_ble_eq_true rfl) (Nat.le_of_ble_eq_true rfl) (Nat.le_of_ble_eq_true rfl) (Nat.le_of_ble_eq_true rfl) (Nat.le_of_ble_eq_true rfl) rfl rfl (by decide) rfl (by decide) (by decide) ?_
    rintro r_6 w ⟨hr_7, rfl⟩
    refine k_ws [(cO5_riiiiiiii h0 nr xsnapped xmostSlip xslip xisDrawn xseed xtick xmotorTick xahead), (cO3_vrvvvvvv hh v0hh yhn v2hh v3hh v4hh v5hh v6hh v7hh), (cO8_iiri yhn 1 6 yhnc yhnn), (cAI g yhnc 6 yhnf), (cO8_iiri nr 8 10 nrc nrn), (cAI g nrc 80 nrf)] rfl ?_
    refine k_aload_n X dX5_exactThread_29 0 rfl ?_
    refine k_get (ci := 5) X inlX5 rfl 0 (by decide) dX5_exactThread_30 mw125 0 rfl rfl ?_
    refine k_iload_n X dX5_exactThread_33 2 rfl ?_
    refine k_iconst (v := 1) X dX5_exactThread_34 (by decide) ?_
    refine k_isub X dX5_exactThread_35 ?_
    refine k_nm (fun z_8 ez_8 => ?_)
    refine k_iconst (v := 4) X dX5_exactThread_36 (by decide) ?_
    refine k_callVI (n := 2) (As := [.int z_8, .int 4]) (st := [.int r_6]) X [(cO8_iiri nr 8 10 nrc nrn), (cAI g nrc 80 nrf)] [(cO5_riiiiiiii h0 nr xsnapped xmostSlip xslip xisDrawn xseed xtick xmotorTick xahead), (cO3_vrvvvvvv hh v0hh yhn v2hh v3hh v4hh v5hh v6hh v7hh), (cO8_iiri yhn 1 6 yhnc yhnn), (cAI g yhnc 6 yhnf)] [4, 5] [0, 1, 2, 3] (t_at l g nr z_8 4 8 10 nrc nrn 80 nrf (tbk_8_10)) dX5_exactThread_37 mw757 mw376 mw377 mw64 mw378 rfl 8 rfl rfl 0 _ rfl yk_yX8_at_2 rfl (Nat.le_of_ble_eq_true rfl) (Nat.le_of_ble_eq_true rfl) (Nat.le_of_ble_eq_true rfl) (Nat.le_of_ble_eq_true rfl) (Nat.le_of_ble_eq_true rfl) rfl rfl (by decide) rfl (by decide) (by decide) ?_
    rintro r_9 w ⟨hr_10, rfl⟩
    refine k_ws [(cO5_riiiiiiii h0 nr xsnapped xmostSlip xslip xisDrawn xseed xtick xmotorTick xahead), (cO3_vrvvvvvv hh v0hh yhn v2hh v3hh v4hh v5hh v6hh v7hh), (cO8_iiri yhn 1 6 yhnc yhnn), (cAI g yhnc 6 yhnf), (cO8_iiri nr 8 10 nrc nrn), (cAI g nrc 80 nrf)] rfl ?_
    refine k_isub X dX5_exactThread_40 ?_
    refine k_nm (fun z_11 ez_11 => ?_)
    refine k_istore_n [(3, .int z_11), (0, .ref h0), (1, .ref hh), (2, .int p0)] X dX5_exactThread_41 (by decide) rfl ?_
    refine k_iconst (v := 0) X dX5_exactThread_42 (by decide) ?_
    refine k_iload_n X dX5_exactThread_43 0 rfl ?_
    refine k_aload_n X dX5_exactThread_44 2 rfl ?_
    refine k_iconst (v := 1) X dX5_exactThread_45 (by decide) ?_
    refine k_callVI (n := 1) (As := [.int 1]) (st := [.int z_11, .int 0]) X [(cO3_vrvvvvvv hh v0hh yhn v2hh v3hh v4hh v5hh v6hh v7hh), (cO8_iiri yhn 1 6 yhnc yhnn), (cAI g yhnc 6 yhnf)] [(cO5_riiiiiiii h0 nr xsnapped xmostSlip xslip xisDrawn xseed xtick xmotorTick xahead), (cO8_iiri nr 8 10 nrc nrn), (cAI g nrc 80 nrf)] [1, 2, 3] [0, 4, 5] (h_number l g hh 1 v0hh yhn v2hh v3hh v4hh v5hh v6hh v7hh yhnc yhnn yhnf) dX5_exactThread_46 mw796 mw415 mw416 mw19 mw417 rfl 3 rfl rfl 0 _ rfl yk_yX3_number_1 rfl (Nat.le_of_ble_eq_true rfl) (Nat.le_of_ble_eq_true rfl) (Nat.le_of_ble_eq_true rfl) (Nat.le_of_ble_eq_true rfl) (Nat.le_of_ble_eq_true rfl) rfl rfl (by decide) rfl (by decide) (by decide) ?_
    rintro r_12 w rfl
    refine k_ws [(cO5_riiiiiiii h0 nr xsnapped xmostSlip xslip xisDrawn xseed xtick xmotorTick xahead), (cO8_iiri nr 8 10 nrc nrn), (cAI g nrc 80 nrf), (cO3_vrvvvvvv hh v0hh yhn v2hh v3hh v4hh v5hh v6hh v7hh), (cO8_iiri yhn 1 6 yhnc yhnn), (cAI g yhnc 6 yhnf)] rfl ?_
    refine k_isub X dX5_exactThread_49 ?_
    refine k_nm (fun z_14 ez_14 => ?_)
    refine k_sipush (v := 199) X dX5_exactThread_50 (by decide) ?_
    refine k_mmin X dX5_exactThread_53 mw784 mw785 mw103 mw786 (Nat.le_of_ble_eq_true rfl) (Nat.le_of_ble_eq_true rfl) (Nat.zero_le _) (Nat.zero_le _) ?_
    refine k_nm (fun z_15 ez_15 => ?_)
    refine k_mmax X dX5_exactThread_56 mw756 mw102 mw103 mw104 (Nat.le_of_ble_eq_true rfl) (Nat.le_of_ble_eq_true rfl) (Nat.zero_le _) (Nat.zero_le _) ?_
    refine k_nm (fun z_16 ez_16 => ?_)
    exact k_iret X hr dX5_exactThread_59 (Nat.le_of_ble_eq_true rfl) (Nat.le_of_ble_eq_true rfl) [0, 1, 2, 3, 4, 5] (by decide) rfl rfl rfl
  · skip
    refine k_bipush (v := -2) X dX5_exactThread_15 (by decide) ?_
    exact k_iret X hr dX5_exactThread_17 (Nat.le_of_ble_eq_true rfl) (Nat.le_of_ble_eq_true rfl) [0, 4, 5, 1, 2, 3] (by decide) rfl rfl rfl

theorem dX5_signsSo_0 : decode cX5_signsSo 0 = .ok (.iconst 0, 1) := dk_3 rfl
theorem dX5_signsSo_1 : decode cX5_signsSo 1 = .ok (.istore_n 2, 1) := dk_61 rfl
theorem dX5_signsSo_2 : decode cX5_signsSo 2 = .ok (.iconst 0, 1) := dk_3 rfl
theorem dX5_signsSo_3 : decode cX5_signsSo 3 = .ok (.istore_n 3, 1) := dk_62 rfl
theorem dX5_signsSo_4 : decode cX5_signsSo 4 = .ok (.iload_n 3, 1) := dk_29 rfl
theorem dX5_signsSo_5 : decode cX5_signsSo 5 = .ok (.aload_n 1, 1) := dk_43 rfl
theorem dX5_signsSo_6 : decode cX5_signsSo 6 = .ok (.getfield 118, 3) := dk_180 rfl rfl rfl rfl
theorem dX5_signsSo_9 : decode cX5_signsSo 9 = .ok (.getfield 51, 3) := dk_180 rfl rfl rfl rfl
theorem dX5_signsSo_12 : decode cX5_signsSo 12 = .ok (.if_icmp .ge 70, 3) := dk_162 rfl rfl rfl (by decide)
theorem dX5_signsSo_15 : decode cX5_signsSo 15 = .ok (.aload_n 1, 1) := dk_43 rfl
theorem dX5_signsSo_16 : decode cX5_signsSo 16 = .ok (.getfield 118, 3) := dk_180 rfl rfl rfl rfl
theorem dX5_signsSo_19 : decode cX5_signsSo 19 = .ok (.iload_n 3, 1) := dk_29 rfl
theorem dX5_signsSo_20 : decode cX5_signsSo 20 = .ok (.iconst 0, 1) := dk_3 rfl
theorem dX5_signsSo_21 : decode cX5_signsSo 21 = .ok (.invokevirtual 59, 3) := dk_182 rfl rfl rfl rfl
theorem dX5_signsSo_24 : decode cX5_signsSo 24 = .ok (.istore 4, 2) := dk_54 rfl rfl rfl
theorem dX5_signsSo_26 : decode cX5_signsSo 26 = .ok (.aload_n 0, 1) := dk_42 rfl
theorem dX5_signsSo_27 : decode cX5_signsSo 27 = .ok (.getfield 14, 3) := dk_180 rfl rfl rfl rfl
theorem dX5_signsSo_30 : decode cX5_signsSo 30 = .ok (.iload 4, 2) := dk_21 rfl rfl rfl
theorem dX5_signsSo_32 : decode cX5_signsSo 32 = .ok (.iconst 1, 1) := dk_4 rfl
theorem dX5_signsSo_33 : decode cX5_signsSo 33 = .ok (.invokevirtual 59, 3) := dk_182 rfl rfl rfl rfl
theorem dX5_signsSo_36 : decode cX5_signsSo 36 = .ok (.aload_n 1, 1) := dk_43 rfl
theorem dX5_signsSo_37 : decode cX5_signsSo 37 = .ok (.getfield 118, 3) := dk_180 rfl rfl rfl rfl
theorem dX5_signsSo_40 : decode cX5_signsSo 40 = .ok (.iload_n 3, 1) := dk_29 rfl
theorem dX5_signsSo_41 : decode cX5_signsSo 41 = .ok (.iconst 1, 1) := dk_4 rfl
theorem dX5_signsSo_42 : decode cX5_signsSo 42 = .ok (.invokevirtual 59, 3) := dk_182 rfl rfl rfl rfl
theorem dX5_signsSo_45 : decode cX5_signsSo 45 = .ok (.if_icmp .ne 31, 3) := dk_160 rfl rfl rfl (by decide)
theorem dX5_signsSo_48 : decode cX5_signsSo 48 = .ok (.aload_n 0, 1) := dk_42 rfl
theorem dX5_signsSo_49 : decode cX5_signsSo 49 = .ok (.getfield 14, 3) := dk_180 rfl rfl rfl rfl
theorem dX5_signsSo_52 : decode cX5_signsSo 52 = .ok (.iload 4, 2) := dk_21 rfl rfl rfl
theorem dX5_signsSo_54 : decode cX5_signsSo 54 = .ok (.iconst 0, 1) := dk_3 rfl
theorem dX5_signsSo_55 : decode cX5_signsSo 55 = .ok (.invokevirtual 59, 3) := dk_182 rfl rfl rfl rfl
theorem dX5_signsSo_58 : decode cX5_signsSo 58 = .ok (.aload_n 1, 1) := dk_43 rfl
theorem dX5_signsSo_59 : decode cX5_signsSo 59 = .ok (.getfield 118, 3) := dk_180 rfl rfl rfl rfl
theorem dX5_signsSo_62 : decode cX5_signsSo 62 = .ok (.iload_n 3, 1) := dk_29 rfl
theorem dX5_signsSo_63 : decode cX5_signsSo 63 = .ok (.iconst 2, 1) := dk_5 rfl
theorem dX5_signsSo_64 : decode cX5_signsSo 64 = .ok (.invokevirtual 59, 3) := dk_182 rfl rfl rfl rfl
theorem dX5_signsSo_67 : decode cX5_signsSo 67 = .ok (.if_icmp .ne 9, 3) := dk_160 rfl rfl rfl (by decide)
theorem dX5_signsSo_70 : decode cX5_signsSo 70 = .ok (.iload_n 2, 1) := dk_28 rfl
theorem dX5_signsSo_71 : decode cX5_signsSo 71 = .ok (.iconst 1, 1) := dk_4 rfl
theorem dX5_signsSo_72 : decode cX5_signsSo 72 = .ok (.iload_n 3, 1) := dk_29 rfl
theorem dX5_signsSo_73 : decode cX5_signsSo 73 = .ok (.ishl, 1) := dk_120 rfl
theorem dX5_signsSo_74 : decode cX5_signsSo 74 = .ok (.ior, 1) := dk_128 rfl
theorem dX5_signsSo_75 : decode cX5_signsSo 75 = .ok (.istore_n 2, 1) := dk_61 rfl
theorem dX5_signsSo_76 : decode cX5_signsSo 76 = .ok (.iinc 3 1, 3) := dk_132 rfl rfl rfl rfl (by decide)
theorem dX5_signsSo_79 : decode cX5_signsSo 79 = .ok (.goto (-75), 3) := dk_167 rfl rfl rfl (by decide)
theorem dX5_signsSo_82 : decode cX5_signsSo 82 = .ok (.iload_n 2, 1) := dk_28 rfl
theorem dX5_signsSo_83 : decode cX5_signsSo 83 = .ok (.ireturn, 1) := dk_172 rfl
set_option maxHeartbeats 4000000 in
set_option maxRecDepth 100000 in
theorem n_signsSo (l : Launch) (g : Gx) (h0 : Nat) (hh : Nat) (nr : Nat) (xsnapped : Int32) (xmostSlip : Int32) (xslip : Int32) (xisDrawn : Int32) (xseed : Int32) (xtick : Int32) (xmotorTick : Int32) (xahead : Int32) (nrc : Nat) (nrn : Int32) (nrf : Nat → Int32) (v0hh : Value) (v1hh : Value) (v2hh : Value) (v3hh : Value) (v4hh : Value) (v5hh : Value) (yhs : Nat) (v7hh : Value) (yhsc : Nat) (yhsn : Int32) (yhsf : Nat → Int32) : cI l g yX5_signsSo cX5_signsSo 5 (some .int) 1 22 0 0 [.ref h0, .ref hh] [(cO5_riiiiiiii h0 nr xsnapped xmostSlip xslip xisDrawn xseed xtick xmotorTick xahead), (cO8_iiri nr 8 10 nrc nrn), (cAI g nrc 80 nrf), (cO3_vvvvvvrv hh v0hh v1hh v2hh v3hh v4hh v5hh yhs v7hh), (cO8_iiri yhs 6 3 yhsc yhsn), (cAI g yhsc 18 yhsf)] (fun r w => w = [(cO5_riiiiiiii h0 nr xsnapped xmostSlip xslip xisDrawn xseed xtick xmotorTick xahead), (cO8_iiri nr 8 10 nrc nrn), (cAI g nrc 80 nrf), (cO3_vvvvvvrv hh v0hh v1hh v2hh v3hh v4hh v5hh yhs v7hh), (cO8_iiri yhs 6 3 yhsc yhsn), (cAI g yhsc 18 yhsf)]) := by
  refine cI.of (by decide) (Nat.le_of_ble_eq_true rfl) ?_
  intro p e s m args below meth c A X hr hi
  refine k_lveq [(0, .ref h0), (1, .ref hh)] rfl ?_
  refine k_iconst (v := 0) X dX5_signsSo_0 (by decide) ?_
  refine k_istore_n [(2, .int 0), (0, .ref h0), (1, .ref hh)] X dX5_signsSo_1 (by decide) rfl ?_
  refine k_iconst (v := 0) X dX5_signsSo_2 (by decide) ?_
  refine k_istore_n [(3, .int 0), (2, .int 0), (0, .ref h0), (1, .ref hh)] X dX5_signsSo_3 (by decide) rfl ?_
  refine (fun hL : ∀ (nn_3 : Nat) (u_1 : Int32) (u_2 : Int32), (yhsn.toInt - u_1.toInt).toNat = nn_3 → Wk p l e _ s m args below meth c _ A g _ _ _ [(cO5_riiiiiiii h0 nr xsnapped xmostSlip xslip xisDrawn xseed xtick xmotorTick xahead), (cO8_iiri nr 8 10 nrc nrn), (cAI g nrc 80 nrf), (cO3_vvvvvvrv hh v0hh v1hh v2hh v3hh v4hh v5hh yhs v7hh), (cO8_iiri yhs 6 3 yhsc yhsn), (cAI g yhsc 18 yhsf)] [(3, .int u_1), (2, .int u_2), (0, .ref h0), (1, .ref hh)] 4 [] => hL _ 0 0 rfl ) ?_
  refine fun nn_3 => Nat.strongRecOn nn_3 (fun nn_3 ih_5 => ?_)
  intro u_1 u_2 hm_4 
  refine k_iload_n X dX5_signsSo_4 0 rfl ?_
  refine k_aload_n X dX5_signsSo_5 3 rfl ?_
  refine k_get (ci := 3) X inlX3 rfl 6 (by decide) dX5_signsSo_6 mw957 3 rfl rfl ?_
  refine k_get (ci := 8) X inlX8 rfl 3 (by decide) dX5_signsSo_9 mw754 4 rfl rfl ?_
  refine k_ic_ge 82 X dX5_signsSo_12 (by decide) (fun h_6 => ?_) (fun h_6 => ?_)
  · skip
    refine k_iload_n X dX5_signsSo_82 1 rfl ?_
    exact k_iret X hr dX5_signsSo_83 (Nat.le_of_ble_eq_true rfl) (Nat.le_of_ble_eq_true rfl) [0, 1, 2, 3, 4, 5] (by decide) rfl rfl rfl
  · skip
    refine k_aload_n X dX5_signsSo_15 3 rfl ?_
    refine k_get (ci := 3) X inlX3 rfl 6 (by decide) dX5_signsSo_16 mw957 3 rfl rfl ?_
    refine k_iload_n X dX5_signsSo_19 0 rfl ?_
    refine k_iconst (v := 0) X dX5_signsSo_20 (by decide) ?_
    refine k_callVI (n := 2) (As := [.int u_1, .int 0]) (st := []) X [(cO8_iiri yhs 6 3 yhsc yhsn), (cAI g yhsc 18 yhsf)] [(cO5_riiiiiiii h0 nr xsnapped xmostSlip xslip xisDrawn xseed xtick xmotorTick xahead), (cO8_iiri nr 8 10 nrc nrn), (cAI g nrc 80 nrf), (cO3_vvvvvvrv hh v0hh v1hh v2hh v3hh v4hh v5hh yhs v7hh)] [4, 5] [0, 1, 2, 3] (t_at l g yhs u_1 0 6 3 yhsc yhsn 18 yhsf (tbk_6_3)) dX5_signsSo_21 mw757 mw376 mw377 mw64 mw378 rfl 8 rfl rfl 0 _ rfl yk_yX8_at_2 rfl (Nat.le_of_ble_eq_true rfl) (Nat.le_of_ble_eq_true rfl) (Nat.le_of_ble_eq_true rfl) (Nat.le_of_ble_eq_true rfl) (Nat.le_of_ble_eq_true rfl) rfl rfl (by decide) rfl (by decide) (by decide) ?_
    rintro r_7 w ⟨hr_8, rfl⟩
    refine k_ws [(cO5_riiiiiiii h0 nr xsnapped xmostSlip xslip xisDrawn xseed xtick xmotorTick xahead), (cO8_iiri nr 8 10 nrc nrn), (cAI g nrc 80 nrf), (cO3_vvvvvvrv hh v0hh v1hh v2hh v3hh v4hh v5hh yhs v7hh), (cO8_iiri yhs 6 3 yhsc yhsn), (cAI g yhsc 18 yhsf)] rfl ?_
    refine k_istore [(4, .int r_7), (3, .int u_1), (2, .int u_2), (0, .ref h0), (1, .ref hh)] X dX5_signsSo_24 (by decide) rfl ?_
    refine k_aload_n X dX5_signsSo_26 3 rfl ?_
    refine k_get (ci := 5) X inlX5 rfl 0 (by decide) dX5_signsSo_27 mw125 0 rfl rfl ?_
    refine k_iload X dX5_signsSo_30 0 rfl ?_
    refine k_iconst (v := 1) X dX5_signsSo_32 (by decide) ?_
    refine k_callVI (n := 2) (As := [.int r_7, .int 1]) (st := []) X [(cO8_iiri nr 8 10 nrc nrn), (cAI g nrc 80 nrf)] [(cO5_riiiiiiii h0 nr xsnapped xmostSlip xslip xisDrawn xseed xtick xmotorTick xahead), (cO3_vvvvvvrv hh v0hh v1hh v2hh v3hh v4hh v5hh yhs v7hh), (cO8_iiri yhs 6 3 yhsc yhsn), (cAI g yhsc 18 yhsf)] [1, 2] [0, 3, 4, 5] (t_at l g nr r_7 1 8 10 nrc nrn 80 nrf (tbk_8_10)) dX5_signsSo_33 mw757 mw376 mw377 mw64 mw378 rfl 8 rfl rfl 0 _ rfl yk_yX8_at_2 rfl (Nat.le_of_ble_eq_true rfl) (Nat.le_of_ble_eq_true rfl) (Nat.le_of_ble_eq_true rfl) (Nat.le_of_ble_eq_true rfl) (Nat.le_of_ble_eq_true rfl) rfl rfl (by decide) rfl (by decide) (by decide) ?_
    rintro r_9 w ⟨hr_10, rfl⟩
    refine k_ws [(cO5_riiiiiiii h0 nr xsnapped xmostSlip xslip xisDrawn xseed xtick xmotorTick xahead), (cO3_vvvvvvrv hh v0hh v1hh v2hh v3hh v4hh v5hh yhs v7hh), (cO8_iiri yhs 6 3 yhsc yhsn), (cAI g yhsc 18 yhsf), (cO8_iiri nr 8 10 nrc nrn), (cAI g nrc 80 nrf)] rfl ?_
    refine k_aload_n X dX5_signsSo_36 4 rfl ?_
    refine k_get (ci := 3) X inlX3 rfl 6 (by decide) dX5_signsSo_37 mw957 1 rfl rfl ?_
    refine k_iload_n X dX5_signsSo_40 1 rfl ?_
    refine k_iconst (v := 1) X dX5_signsSo_41 (by decide) ?_
    refine k_callVI (n := 2) (As := [.int u_1, .int 1]) (st := [.int r_9]) X [(cO8_iiri yhs 6 3 yhsc yhsn), (cAI g yhsc 18 yhsf)] [(cO5_riiiiiiii h0 nr xsnapped xmostSlip xslip xisDrawn xseed xtick xmotorTick xahead), (cO3_vvvvvvrv hh v0hh v1hh v2hh v3hh v4hh v5hh yhs v7hh), (cO8_iiri nr 8 10 nrc nrn), (cAI g nrc 80 nrf)] [2, 3] [0, 1, 4, 5] (t_at l g yhs u_1 1 6 3 yhsc yhsn 18 yhsf (tbk_6_3)) dX5_signsSo_42 mw757 mw376 mw377 mw64 mw378 rfl 8 rfl rfl 0 _ rfl yk_yX8_at_2 rfl (Nat.le_of_ble_eq_true rfl) (Nat.le_of_ble_eq_true rfl) (Nat.le_of_ble_eq_true rfl) (Nat.le_of_ble_eq_true rfl) (Nat.le_of_ble_eq_true rfl) rfl rfl (by decide) rfl (by decide) (by decide) ?_
    rintro r_11 w ⟨hr_12, rfl⟩
    refine k_ws [(cO5_riiiiiiii h0 nr xsnapped xmostSlip xslip xisDrawn xseed xtick xmotorTick xahead), (cO3_vvvvvvrv hh v0hh v1hh v2hh v3hh v4hh v5hh yhs v7hh), (cO8_iiri nr 8 10 nrc nrn), (cAI g nrc 80 nrf), (cO8_iiri yhs 6 3 yhsc yhsn), (cAI g yhsc 18 yhsf)] rfl ?_
    refine k_ic_ne 76 X dX5_signsSo_45 (by decide) (fun h_13 => ?_) (fun h_13 => ?_)
    · skip
      obtain ⟨z_14, ez_14⟩ : ∃ y : Int32, u_1 + Int32.ofInt 1 = y := ⟨_, rfl⟩
      refine k_iinc z_14 [(3, .int z_14), (4, .int r_7), (2, .int u_2), (0, .ref h0), (1, .ref hh)] 1 X dX5_signsSo_76 rfl ez_14 (by decide) rfl ?_
      refine k_goto 4 X dX5_signsSo_79 (by decide) ?_
      refine k_lv [(3, .int z_14), (2, .int u_2), (0, .ref h0), (1, .ref hh)] [0, 2, 3, 4] rfl ?_
      refine k_sub [(cO5_riiiiiiii h0 nr xsnapped xmostSlip xslip xisDrawn xseed xtick xmotorTick xahead), (cO8_iiri nr 8 10 nrc nrn), (cAI g nrc 80 nrf), (cO3_vvvvvvrv hh v0hh v1hh v2hh v3hh v4hh v5hh yhs v7hh), (cO8_iiri yhs 6 3 yhsc yhsn), (cAI g yhsc 18 yhsf)] [0, 2, 3, 1, 4, 5] rfl (by decide) rfl ?_
      exact ih_5 _ (by rw [← hm_4]; exact mu_lt (by assumption) (by assumption)) z_14 u_2 rfl 
    · skip
      refine k_aload_n X dX5_signsSo_48 3 rfl ?_
      refine k_get (ci := 5) X inlX5 rfl 0 (by decide) dX5_signsSo_49 mw125 0 rfl rfl ?_
      refine k_iload X dX5_signsSo_52 0 rfl ?_
      refine k_iconst (v := 0) X dX5_signsSo_54 (by decide) ?_
      refine k_callVI (n := 2) (As := [.int r_7, .int 0]) (st := []) X [(cO8_iiri nr 8 10 nrc nrn), (cAI g nrc 80 nrf)] [(cO5_riiiiiiii h0 nr xsnapped xmostSlip xslip xisDrawn xseed xtick xmotorTick xahead), (cO3_vvvvvvrv hh v0hh v1hh v2hh v3hh v4hh v5hh yhs v7hh), (cO8_iiri yhs 6 3 yhsc yhsn), (cAI g yhsc 18 yhsf)] [2, 3] [0, 1, 4, 5] (t_at l g nr r_7 0 8 10 nrc nrn 80 nrf (tbk_8_10)) dX5_signsSo_55 mw757 mw376 mw377 mw64 mw378 rfl 8 rfl rfl 0 _ rfl yk_yX8_at_2 rfl (Nat.le_of_ble_eq_true rfl) (Nat.le_of_ble_eq_true rfl) (Nat.le_of_ble_eq_true rfl) (Nat.le_of_ble_eq_true rfl) (Nat.le_of_ble_eq_true rfl) rfl rfl (by decide) rfl (by decide) (by decide) ?_
      rintro r_15 w ⟨hr_16, rfl⟩
      refine k_ws [(cO5_riiiiiiii h0 nr xsnapped xmostSlip xslip xisDrawn xseed xtick xmotorTick xahead), (cO3_vvvvvvrv hh v0hh v1hh v2hh v3hh v4hh v5hh yhs v7hh), (cO8_iiri yhs 6 3 yhsc yhsn), (cAI g yhsc 18 yhsf), (cO8_iiri nr 8 10 nrc nrn), (cAI g nrc 80 nrf)] rfl ?_
      refine k_aload_n X dX5_signsSo_58 4 rfl ?_
      refine k_get (ci := 3) X inlX3 rfl 6 (by decide) dX5_signsSo_59 mw957 1 rfl rfl ?_
      refine k_iload_n X dX5_signsSo_62 1 rfl ?_
      refine k_iconst (v := 2) X dX5_signsSo_63 (by decide) ?_
      refine k_callVI (n := 2) (As := [.int u_1, .int 2]) (st := [.int r_15]) X [(cO8_iiri yhs 6 3 yhsc yhsn), (cAI g yhsc 18 yhsf)] [(cO5_riiiiiiii h0 nr xsnapped xmostSlip xslip xisDrawn xseed xtick xmotorTick xahead), (cO3_vvvvvvrv hh v0hh v1hh v2hh v3hh v4hh v5hh yhs v7hh), (cO8_iiri nr 8 10 nrc nrn), (cAI g nrc 80 nrf)] [2, 3] [0, 1, 4, 5] (t_at l g yhs u_1 2 6 3 yhsc yhsn 18 yhsf (tbk_6_3)) dX5_signsSo_64 mw757 mw376 mw377 mw64 mw378 rfl 8 rfl rfl 0 _ rfl yk_yX8_at_2 rfl (Nat.le_of_ble_eq_true rfl) (Nat.le_of_ble_eq_true rfl) (Nat.le_of_ble_eq_true rfl) (Nat.le_of_ble_eq_true rfl) (Nat.le_of_ble_eq_true rfl) rfl rfl (by decide) rfl (by decide) (by decide) ?_
      rintro r_17 w ⟨hr_18, rfl⟩
      refine k_ws [(cO5_riiiiiiii h0 nr xsnapped xmostSlip xslip xisDrawn xseed xtick xmotorTick xahead), (cO3_vvvvvvrv hh v0hh v1hh v2hh v3hh v4hh v5hh yhs v7hh), (cO8_iiri nr 8 10 nrc nrn), (cAI g nrc 80 nrf), (cO8_iiri yhs 6 3 yhsc yhsn), (cAI g yhsc 18 yhsf)] rfl ?_
      refine k_ic_ne 76 X dX5_signsSo_67 (by decide) (fun h_19 => ?_) (fun h_19 => ?_)
      · skip
        obtain ⟨z_20, ez_20⟩ : ∃ y : Int32, u_1 + Int32.ofInt 1 = y := ⟨_, rfl⟩
        refine k_iinc z_20 [(3, .int z_20), (4, .int r_7), (2, .int u_2), (0, .ref h0), (1, .ref hh)] 1 X dX5_signsSo_76 rfl ez_20 (by decide) rfl ?_
        refine k_goto 4 X dX5_signsSo_79 (by decide) ?_
        refine k_lv [(3, .int z_20), (2, .int u_2), (0, .ref h0), (1, .ref hh)] [0, 2, 3, 4] rfl ?_
        refine k_sub [(cO5_riiiiiiii h0 nr xsnapped xmostSlip xslip xisDrawn xseed xtick xmotorTick xahead), (cO8_iiri nr 8 10 nrc nrn), (cAI g nrc 80 nrf), (cO3_vvvvvvrv hh v0hh v1hh v2hh v3hh v4hh v5hh yhs v7hh), (cO8_iiri yhs 6 3 yhsc yhsn), (cAI g yhsc 18 yhsf)] [0, 2, 3, 1, 4, 5] rfl (by decide) rfl ?_
        exact ih_5 _ (by rw [← hm_4]; exact mu_lt (by assumption) (by assumption)) z_20 u_2 rfl 
      · skip
        refine k_iload_n X dX5_signsSo_70 2 rfl ?_
        refine k_iconst (v := 1) X dX5_signsSo_71 (by decide) ?_
        refine k_iload_n X dX5_signsSo_72 1 rfl ?_
        refine k_ishl X dX5_signsSo_73 ?_
        refine k_nm (fun z_21 ez_21 => ?_)
        refine k_ior X dX5_signsSo_74 ?_
        refine k_nm (fun z_22 ez_22 => ?_)
        refine k_istore_n [(2, .int z_22), (4, .int r_7), (3, .int u_1), (0, .ref h0), (1, .ref hh)] X dX5_signsSo_75 (by decide) rfl ?_
        obtain ⟨z_23, ez_23⟩ : ∃ y : Int32, u_1 + Int32.ofInt 1 = y := ⟨_, rfl⟩
        refine k_iinc z_23 [(3, .int z_23), (2, .int z_22), (4, .int r_7), (0, .ref h0), (1, .ref hh)] 2 X dX5_signsSo_76 rfl ez_23 (by decide) rfl ?_
        refine k_goto 4 X dX5_signsSo_79 (by decide) ?_
        refine k_lv [(3, .int z_23), (2, .int z_22), (0, .ref h0), (1, .ref hh)] [0, 1, 3, 4] rfl ?_
        refine k_sub [(cO5_riiiiiiii h0 nr xsnapped xmostSlip xslip xisDrawn xseed xtick xmotorTick xahead), (cO8_iiri nr 8 10 nrc nrn), (cAI g nrc 80 nrf), (cO3_vvvvvvrv hh v0hh v1hh v2hh v3hh v4hh v5hh yhs v7hh), (cO8_iiri yhs 6 3 yhsc yhsn), (cAI g yhsc 18 yhsf)] [0, 2, 3, 1, 4, 5] rfl (by decide) rfl ?_
        exact ih_5 _ (by rw [← hm_4]; exact mu_lt (by assumption) (by assumption)) z_23 z_22 rfl 

theorem dX0_firstDying_0 : decode cX0_firstDying 0 = .ok (.iconst 0, 1) := dk_3 rfl
theorem dX0_firstDying_1 : decode cX0_firstDying 1 = .ok (.istore_n 1, 1) := dk_60 rfl
theorem dX0_firstDying_2 : decode cX0_firstDying 2 = .ok (.iload_n 1, 1) := dk_27 rfl
theorem dX0_firstDying_3 : decode cX0_firstDying 3 = .ok (.aload_n 0, 1) := dk_42 rfl
theorem dX0_firstDying_4 : decode cX0_firstDying 4 = .ok (.getfield 14, 3) := dk_180 rfl rfl rfl rfl
theorem dX0_firstDying_7 : decode cX0_firstDying 7 = .ok (.getfield 52, 3) := dk_180 rfl rfl rfl rfl
theorem dX0_firstDying_10 : decode cX0_firstDying 10 = .ok (.if_icmp .ge 23, 3) := dk_162 rfl rfl rfl (by decide)
theorem dX0_firstDying_13 : decode cX0_firstDying 13 = .ok (.aload_n 0, 1) := dk_42 rfl
theorem dX0_firstDying_14 : decode cX0_firstDying 14 = .ok (.getfield 20, 3) := dk_180 rfl rfl rfl rfl
theorem dX0_firstDying_17 : decode cX0_firstDying 17 = .ok (.iload_n 1, 1) := dk_27 rfl
theorem dX0_firstDying_18 : decode cX0_firstDying 18 = .ok (.ishr, 1) := dk_122 rfl
theorem dX0_firstDying_19 : decode cX0_firstDying 19 = .ok (.iconst 1, 1) := dk_4 rfl
theorem dX0_firstDying_20 : decode cX0_firstDying 20 = .ok (.iand, 1) := dk_126 rfl
theorem dX0_firstDying_21 : decode cX0_firstDying 21 = .ok (.iconst 1, 1) := dk_4 rfl
theorem dX0_firstDying_22 : decode cX0_firstDying 22 = .ok (.if_icmp .ne 5, 3) := dk_160 rfl rfl rfl (by decide)
theorem dX0_firstDying_25 : decode cX0_firstDying 25 = .ok (.iload_n 1, 1) := dk_27 rfl
theorem dX0_firstDying_26 : decode cX0_firstDying 26 = .ok (.ireturn, 1) := dk_172 rfl
theorem dX0_firstDying_27 : decode cX0_firstDying 27 = .ok (.iinc 1 1, 3) := dk_132 rfl rfl rfl rfl (by decide)
theorem dX0_firstDying_30 : decode cX0_firstDying 30 = .ok (.goto (-28), 3) := dk_167 rfl rfl rfl (by decide)
theorem dX0_firstDying_33 : decode cX0_firstDying 33 = .ok (.bipush (-2), 2) := dk_16 rfl rfl (by decide)
theorem dX0_firstDying_35 : decode cX0_firstDying 35 = .ok (.ireturn, 1) := dk_172 rfl
set_option maxHeartbeats 4000000 in
set_option maxRecDepth 100000 in
theorem a_firstDying (l : Launch) (g : Gx) (h0 : Nat) (al : Nat) (xd : Int32) (alc : Nat) (aln : Int32) (alf : Nat → Int32) : cI l g yX0_firstDying cX0_firstDying 2 (some .int) 0 0 0 0 [.ref h0] [(cO0_ri h0 al xd), (cO8_iiri al 8 1 alc aln), (cAI g alc 8 alf)] (fun r w => w = [(cO0_ri h0 al xd), (cO8_iiri al 8 1 alc aln), (cAI g alc 8 alf)]) := by
  refine cI.of (by decide) (Nat.le_of_ble_eq_true rfl) ?_
  intro p e s m args below meth c A X hr hi
  refine k_lveq [(0, .ref h0)] rfl ?_
  refine k_iconst (v := 0) X dX0_firstDying_0 (by decide) ?_
  refine k_istore_n [(1, .int 0), (0, .ref h0)] X dX0_firstDying_1 (by decide) rfl ?_
  refine (fun hL : ∀ (nn_2 : Nat) (u_1 : Int32), ((8 : Int32).toInt - u_1.toInt).toNat = nn_2 → Wk p l e _ s m args below meth c _ A g _ _ _ [(cO0_ri h0 al xd), (cO8_iiri al 8 1 alc aln), (cAI g alc 8 alf)] [(1, .int u_1), (0, .ref h0)] 2 [] => hL _ 0 rfl ) ?_
  refine fun nn_2 => Nat.strongRecOn nn_2 (fun nn_2 ih_4 => ?_)
  intro u_1 hm_3 
  refine k_iload_n X dX0_firstDying_2 0 rfl ?_
  refine k_aload_n X dX0_firstDying_3 1 rfl ?_
  refine k_get (ci := 0) X inlX0 rfl 0 (by decide) dX0_firstDying_4 mw139 0 rfl rfl ?_
  refine k_get (ci := 8) X inlX8 rfl 0 (by decide) dX0_firstDying_7 mw1066 1 rfl rfl ?_
  refine k_ic_ge 33 X dX0_firstDying_10 (by decide) (fun h_5 => ?_) (fun h_5 => ?_)
  · skip
    refine k_bipush (v := -2) X dX0_firstDying_33 (by decide) ?_
    exact k_iret X hr dX0_firstDying_35 (Nat.le_of_ble_eq_true rfl) (Nat.le_of_ble_eq_true rfl) [0, 1, 2] (by decide) rfl rfl rfl
  · skip
    refine k_aload_n X dX0_firstDying_13 1 rfl ?_
    refine k_get (ci := 0) X inlX0 rfl 1 (by decide) dX0_firstDying_14 mw140 0 rfl rfl ?_
    refine k_iload_n X dX0_firstDying_17 0 rfl ?_
    refine k_ishr X dX0_firstDying_18 ?_
    refine k_nm (fun z_6 ez_6 => ?_)
    refine k_iconst (v := 1) X dX0_firstDying_19 (by decide) ?_
    refine k_iand X dX0_firstDying_20 ?_
    refine k_nm (fun z_7 ez_7 => ?_)
    refine k_iconst (v := 1) X dX0_firstDying_21 (by decide) ?_
    refine k_ic_ne 27 X dX0_firstDying_22 (by decide) (fun h_8 => ?_) (fun h_8 => ?_)
    · skip
      obtain ⟨z_9, ez_9⟩ : ∃ y : Int32, u_1 + Int32.ofInt 1 = y := ⟨_, rfl⟩
      refine k_iinc z_9 [(1, .int z_9), (0, .ref h0)] 0 X dX0_firstDying_27 rfl ez_9 (by decide) rfl ?_
      refine k_goto 2 X dX0_firstDying_30 (by decide) ?_
      exact ih_4 _ (by rw [← hm_3]; exact mu_lt (by assumption) (by assumption)) z_9 rfl 
    · skip
      refine k_iload_n X dX0_firstDying_25 0 rfl ?_
      exact k_iret X hr dX0_firstDying_26 (Nat.le_of_ble_eq_true rfl) (Nat.le_of_ble_eq_true rfl) [0, 1, 2] (by decide) rfl rfl rfl

theorem dX6_soonestBack_0 : decode cX6_soonestBack 0 = .ok (.iconst 0, 1) := dk_3 rfl
theorem dX6_soonestBack_1 : decode cX6_soonestBack 1 = .ok (.istore_n 2, 1) := dk_61 rfl
theorem dX6_soonestBack_2 : decode cX6_soonestBack 2 = .ok (.iconst 1, 1) := dk_4 rfl
theorem dX6_soonestBack_3 : decode cX6_soonestBack 3 = .ok (.istore_n 3, 1) := dk_62 rfl
theorem dX6_soonestBack_4 : decode cX6_soonestBack 4 = .ok (.iload_n 3, 1) := dk_29 rfl
theorem dX6_soonestBack_5 : decode cX6_soonestBack 5 = .ok (.iload_n 1, 1) := dk_27 rfl
theorem dX6_soonestBack_6 : decode cX6_soonestBack 6 = .ok (.if_icmp .ge 32, 3) := dk_162 rfl rfl rfl (by decide)
theorem dX6_soonestBack_9 : decode cX6_soonestBack 9 = .ok (.aload_n 0, 1) := dk_42 rfl
theorem dX6_soonestBack_10 : decode cX6_soonestBack 10 = .ok (.getfield 14, 3) := dk_180 rfl rfl rfl rfl
theorem dX6_soonestBack_13 : decode cX6_soonestBack 13 = .ok (.iload_n 3, 1) := dk_29 rfl
theorem dX6_soonestBack_14 : decode cX6_soonestBack 14 = .ok (.iconst 0, 1) := dk_3 rfl
theorem dX6_soonestBack_15 : decode cX6_soonestBack 15 = .ok (.invokevirtual 43, 3) := dk_182 rfl rfl rfl rfl
theorem dX6_soonestBack_18 : decode cX6_soonestBack 18 = .ok (.aload_n 0, 1) := dk_42 rfl
theorem dX6_soonestBack_19 : decode cX6_soonestBack 19 = .ok (.getfield 14, 3) := dk_180 rfl rfl rfl rfl
theorem dX6_soonestBack_22 : decode cX6_soonestBack 22 = .ok (.iload_n 2, 1) := dk_28 rfl
theorem dX6_soonestBack_23 : decode cX6_soonestBack 23 = .ok (.iconst 0, 1) := dk_3 rfl
theorem dX6_soonestBack_24 : decode cX6_soonestBack 24 = .ok (.invokevirtual 43, 3) := dk_182 rfl rfl rfl rfl
theorem dX6_soonestBack_27 : decode cX6_soonestBack 27 = .ok (.if_icmp .ge 5, 3) := dk_162 rfl rfl rfl (by decide)
theorem dX6_soonestBack_30 : decode cX6_soonestBack 30 = .ok (.iload_n 3, 1) := dk_29 rfl
theorem dX6_soonestBack_31 : decode cX6_soonestBack 31 = .ok (.istore_n 2, 1) := dk_61 rfl
theorem dX6_soonestBack_32 : decode cX6_soonestBack 32 = .ok (.iinc 3 1, 3) := dk_132 rfl rfl rfl rfl (by decide)
theorem dX6_soonestBack_35 : decode cX6_soonestBack 35 = .ok (.goto (-31), 3) := dk_167 rfl rfl rfl (by decide)
theorem dX6_soonestBack_38 : decode cX6_soonestBack 38 = .ok (.iload_n 2, 1) := dk_28 rfl
theorem dX6_soonestBack_39 : decode cX6_soonestBack 39 = .ok (.ireturn, 1) := dk_172 rfl
set_option maxHeartbeats 4000000 in
set_option maxRecDepth 100000 in
theorem r_soonest (l : Launch) (g : Gx) (h0 : Nat) (p0 : Int32) (rb : Nat) (v1h0 : Value) (v2h0 : Value) (rbc : Nat) (rbn : Int32) (rbf : Nat → Int32) : cI l g yX6_soonestBack cX6_soonestBack 4 (some .int) 1 22 0 0 [.ref h0, .int p0] [(cO6_rvv h0 rb v1h0 v2h0), (cO8_iiri rb 4 1 rbc rbn), (cAI g rbc 4 rbf)] (fun r w => w = [(cO6_rvv h0 rb v1h0 v2h0), (cO8_iiri rb 4 1 rbc rbn), (cAI g rbc 4 rbf)]) := by
  refine cI.of (by decide) (Nat.le_of_ble_eq_true rfl) ?_
  intro p e s m args below meth c A X hr hi
  refine k_lveq [(0, .ref h0), (1, .int p0)] rfl ?_
  refine k_iconst (v := 0) X dX6_soonestBack_0 (by decide) ?_
  refine k_istore_n [(2, .int 0), (0, .ref h0), (1, .int p0)] X dX6_soonestBack_1 (by decide) rfl ?_
  refine k_iconst (v := 1) X dX6_soonestBack_2 (by decide) ?_
  refine k_istore_n [(3, .int 1), (2, .int 0), (0, .ref h0), (1, .int p0)] X dX6_soonestBack_3 (by decide) rfl ?_
  refine (fun hL : ∀ (nn_3 : Nat) (u_1 : Int32) (u_2 : Int32), (p0.toInt - u_1.toInt).toNat = nn_3 → Wk p l e _ s m args below meth c _ A g _ _ _ [(cO6_rvv h0 rb v1h0 v2h0), (cO8_iiri rb 4 1 rbc rbn), (cAI g rbc 4 rbf)] [(3, .int u_1), (2, .int u_2), (0, .ref h0), (1, .int p0)] 4 [] => hL _ 1 0 rfl ) ?_
  refine fun nn_3 => Nat.strongRecOn nn_3 (fun nn_3 ih_5 => ?_)
  intro u_1 u_2 hm_4 
  refine k_iload_n X dX6_soonestBack_4 0 rfl ?_
  refine k_iload_n X dX6_soonestBack_5 3 rfl ?_
  refine k_ic_ge 38 X dX6_soonestBack_6 (by decide) (fun h_6 => ?_) (fun h_6 => ?_)
  · skip
    refine k_iload_n X dX6_soonestBack_38 1 rfl ?_
    exact k_iret X hr dX6_soonestBack_39 (Nat.le_of_ble_eq_true rfl) (Nat.le_of_ble_eq_true rfl) [0, 1, 2] (by decide) rfl rfl rfl
  · skip
    refine k_aload_n X dX6_soonestBack_9 2 rfl ?_
    refine k_get (ci := 6) X inlX6 rfl 0 (by decide) dX6_soonestBack_10 mw146 0 rfl rfl ?_
    refine k_iload_n X dX6_soonestBack_13 0 rfl ?_
    refine k_iconst (v := 0) X dX6_soonestBack_14 (by decide) ?_
    refine k_callVI (n := 2) (As := [.int u_1, .int 0]) (st := []) X [(cO8_iiri rb 4 1 rbc rbn), (cAI g rbc 4 rbf)] [(cO6_rvv h0 rb v1h0 v2h0)] [1, 2] [0] (t_at l g rb u_1 0 4 1 rbc rbn 4 rbf (tbk_4_1)) dX6_soonestBack_15 mw1310 mw376 mw377 mw64 mw378 rfl 8 rfl rfl 0 _ rfl yk_yX8_at_2 rfl (Nat.le_of_ble_eq_true rfl) (Nat.le_of_ble_eq_true rfl) (Nat.le_of_ble_eq_true rfl) (Nat.le_of_ble_eq_true rfl) (Nat.le_of_ble_eq_true rfl) rfl rfl (by decide) rfl (by decide) (by decide) ?_
    rintro r_7 w ⟨hr_8, rfl⟩
    refine k_ws [(cO6_rvv h0 rb v1h0 v2h0), (cO8_iiri rb 4 1 rbc rbn), (cAI g rbc 4 rbf)] rfl ?_
    refine k_aload_n X dX6_soonestBack_18 2 rfl ?_
    refine k_get (ci := 6) X inlX6 rfl 0 (by decide) dX6_soonestBack_19 mw146 0 rfl rfl ?_
    refine k_iload_n X dX6_soonestBack_22 1 rfl ?_
    refine k_iconst (v := 0) X dX6_soonestBack_23 (by decide) ?_
    refine k_callVI (n := 2) (As := [.int u_2, .int 0]) (st := [.int r_7]) X [(cO8_iiri rb 4 1 rbc rbn), (cAI g rbc 4 rbf)] [(cO6_rvv h0 rb v1h0 v2h0)] [1, 2] [0] (t_at l g rb u_2 0 4 1 rbc rbn 4 rbf (tbk_4_1)) dX6_soonestBack_24 mw1310 mw376 mw377 mw64 mw378 rfl 8 rfl rfl 0 _ rfl yk_yX8_at_2 rfl (Nat.le_of_ble_eq_true rfl) (Nat.le_of_ble_eq_true rfl) (Nat.le_of_ble_eq_true rfl) (Nat.le_of_ble_eq_true rfl) (Nat.le_of_ble_eq_true rfl) rfl rfl (by decide) rfl (by decide) (by decide) ?_
    rintro r_9 w ⟨hr_10, rfl⟩
    refine k_ws [(cO6_rvv h0 rb v1h0 v2h0), (cO8_iiri rb 4 1 rbc rbn), (cAI g rbc 4 rbf)] rfl ?_
    refine k_ic_ge 32 X dX6_soonestBack_27 (by decide) (fun h_11 => ?_) (fun h_11 => ?_)
    · skip
      obtain ⟨z_12, ez_12⟩ : ∃ y : Int32, u_1 + Int32.ofInt 1 = y := ⟨_, rfl⟩
      refine k_iinc z_12 [(3, .int z_12), (2, .int u_2), (0, .ref h0), (1, .int p0)] 0 X dX6_soonestBack_32 rfl ez_12 (by decide) rfl ?_
      refine k_goto 4 X dX6_soonestBack_35 (by decide) ?_
      exact ih_5 _ (by rw [← hm_4]; exact mu_lt (by assumption) (by assumption)) z_12 u_2 rfl 
    · skip
      refine k_iload_n X dX6_soonestBack_30 0 rfl ?_
      refine k_istore_n [(2, .int u_1), (3, .int u_1), (0, .ref h0), (1, .int p0)] X dX6_soonestBack_31 (by decide) rfl ?_
      obtain ⟨z_13, ez_13⟩ : ∃ y : Int32, u_1 + Int32.ofInt 1 = y := ⟨_, rfl⟩
      refine k_iinc z_13 [(3, .int z_13), (2, .int u_1), (0, .ref h0), (1, .int p0)] 1 X dX6_soonestBack_32 rfl ez_13 (by decide) rfl ?_
      refine k_goto 4 X dX6_soonestBack_35 (by decide) ?_
      exact ih_5 _ (by rw [← hm_4]; exact mu_lt (by assumption) (by assumption)) z_13 u_1 rfl 
