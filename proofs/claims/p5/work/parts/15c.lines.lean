theorem dX11_houseLine_0 : decode cX11_houseLine 0 = .ok (.aload_n 0, 1) := by decide +kernel
theorem dX11_houseLine_1 : decode cX11_houseLine 1 = .ok (.getfield 23, 3) := by decide +kernel
theorem dX11_houseLine_4 : decode cX11_houseLine 4 = .ok (.bipush 15, 2) := by decide +kernel
theorem dX11_houseLine_6 : decode cX11_houseLine 6 = .ok (.iaload, 1) := by decide +kernel
theorem dX11_houseLine_7 : decode cX11_houseLine 7 = .ok (.iconst 1, 1) := by decide +kernel
theorem dX11_houseLine_8 : decode cX11_houseLine 8 = .ok (.if_icmp .ne 12, 3) := by decide +kernel
theorem dX11_houseLine_11 : decode cX11_houseLine 11 = .ok (.aload_n 0, 1) := by decide +kernel
theorem dX11_houseLine_12 : decode cX11_houseLine 12 = .ok (.iconst 3, 1) := by decide +kernel
theorem dX11_houseLine_13 : decode cX11_houseLine 13 = .ok (.aload_n 0, 1) := by decide +kernel
theorem dX11_houseLine_14 : decode cX11_houseLine 14 = .ok (.getfield 102, 3) := by decide +kernel
theorem dX11_houseLine_17 : decode cX11_houseLine 17 = .ok (.invokevirtual 148, 3) := by decide +kernel
theorem dX11_houseLine_20 : decode cX11_houseLine 20 = .ok (.aload_n 0, 1) := by decide +kernel
theorem dX11_houseLine_21 : decode cX11_houseLine 21 = .ok (.getfield 121, 3) := by decide +kernel
theorem dX11_houseLine_24 : decode cX11_houseLine 24 = .ok (.ifCond .eq 4, 3) := by decide +kernel
theorem dX11_houseLine_27 : decode cX11_houseLine 27 = .ok (.return_, 1) := by decide +kernel
theorem dX11_houseLine_28 : decode cX11_houseLine 28 = .ok (.aload_n 0, 1) := by decide +kernel
theorem dX11_houseLine_29 : decode cX11_houseLine 29 = .ok (.invokevirtual 142, 3) := by decide +kernel
theorem dX11_houseLine_32 : decode cX11_houseLine 32 = .ok (.aload_n 0, 1) := by decide +kernel
theorem dX11_houseLine_33 : decode cX11_houseLine 33 = .ok (.getfield 23, 3) := by decide +kernel
theorem dX11_houseLine_36 : decode cX11_houseLine 36 = .ok (.iconst 0, 1) := by decide +kernel
theorem dX11_houseLine_37 : decode cX11_houseLine 37 = .ok (.aload_n 0, 1) := by decide +kernel
theorem dX11_houseLine_38 : decode cX11_houseLine 38 = .ok (.ldc_w 262, 3) := by decide +kernel
theorem dX11_houseLine_41 : decode cX11_houseLine 41 = .ok (.iconst 1, 1) := by decide +kernel
theorem dX11_houseLine_42 : decode cX11_houseLine 42 = .ok (.bipush 50, 2) := by decide +kernel
theorem dX11_houseLine_44 : decode cX11_houseLine 44 = .ok (.invokevirtual 264, 3) := by decide +kernel
theorem dX11_houseLine_47 : decode cX11_houseLine 47 = .ok (.iastore, 1) := by decide +kernel
theorem dX11_houseLine_48 : decode cX11_houseLine 48 = .ok (.aload_n 0, 1) := by decide +kernel
theorem dX11_houseLine_49 : decode cX11_houseLine 49 = .ok (.getfield 23, 3) := by decide +kernel
theorem dX11_houseLine_52 : decode cX11_houseLine 52 = .ok (.iconst 1, 1) := by decide +kernel
theorem dX11_houseLine_53 : decode cX11_houseLine 53 = .ok (.aload_n 0, 1) := by decide +kernel
theorem dX11_houseLine_54 : decode cX11_houseLine 54 = .ok (.ldc_w 268, 3) := by decide +kernel
theorem dX11_houseLine_57 : decode cX11_houseLine 57 = .ok (.iconst 0, 1) := by decide +kernel
theorem dX11_houseLine_58 : decode cX11_houseLine 58 = .ok (.bipush 50, 2) := by decide +kernel
theorem dX11_houseLine_60 : decode cX11_houseLine 60 = .ok (.invokevirtual 264, 3) := by decide +kernel
theorem dX11_houseLine_63 : decode cX11_houseLine 63 = .ok (.iastore, 1) := by decide +kernel
theorem dX11_houseLine_64 : decode cX11_houseLine 64 = .ok (.aload_n 0, 1) := by decide +kernel
theorem dX11_houseLine_65 : decode cX11_houseLine 65 = .ok (.getfield 23, 3) := by decide +kernel
theorem dX11_houseLine_68 : decode cX11_houseLine 68 = .ok (.iconst 2, 1) := by decide +kernel
theorem dX11_houseLine_69 : decode cX11_houseLine 69 = .ok (.aload_n 0, 1) := by decide +kernel
theorem dX11_houseLine_70 : decode cX11_houseLine 70 = .ok (.ldc_w 269, 3) := by decide +kernel
theorem dX11_houseLine_73 : decode cX11_houseLine 73 = .ok (.iconst 0, 1) := by decide +kernel
theorem dX11_houseLine_74 : decode cX11_houseLine 74 = .ok (.bipush 99, 2) := by decide +kernel
theorem dX11_houseLine_76 : decode cX11_houseLine 76 = .ok (.invokevirtual 264, 3) := by decide +kernel
theorem dX11_houseLine_79 : decode cX11_houseLine 79 = .ok (.iastore, 1) := by decide +kernel
theorem dX11_houseLine_80 : decode cX11_houseLine 80 = .ok (.aload_n 0, 1) := by decide +kernel
theorem dX11_houseLine_81 : decode cX11_houseLine 81 = .ok (.getfield 23, 3) := by decide +kernel
theorem dX11_houseLine_84 : decode cX11_houseLine 84 = .ok (.iconst 3, 1) := by decide +kernel
theorem dX11_houseLine_85 : decode cX11_houseLine 85 = .ok (.aload_n 0, 1) := by decide +kernel
theorem dX11_houseLine_86 : decode cX11_houseLine 86 = .ok (.ldc_w 271, 3) := by decide +kernel
theorem dX11_houseLine_89 : decode cX11_houseLine 89 = .ok (.iconst 1, 1) := by decide +kernel
theorem dX11_houseLine_90 : decode cX11_houseLine 90 = .ok (.sipush 9999, 3) := by decide +kernel
theorem dX11_houseLine_93 : decode cX11_houseLine 93 = .ok (.invokevirtual 264, 3) := by decide +kernel
theorem dX11_houseLine_96 : decode cX11_houseLine 96 = .ok (.iastore, 1) := by decide +kernel
theorem dX11_houseLine_97 : decode cX11_houseLine 97 = .ok (.aload_n 0, 1) := by decide +kernel
theorem dX11_houseLine_98 : decode cX11_houseLine 98 = .ok (.getfield 23, 3) := by decide +kernel
theorem dX11_houseLine_101 : decode cX11_houseLine 101 = .ok (.iconst 4, 1) := by decide +kernel
theorem dX11_houseLine_102 : decode cX11_houseLine 102 = .ok (.aload_n 0, 1) := by decide +kernel
theorem dX11_houseLine_103 : decode cX11_houseLine 103 = .ok (.ldc_w 273, 3) := by decide +kernel
theorem dX11_houseLine_106 : decode cX11_houseLine 106 = .ok (.iconst 0, 1) := by decide +kernel
theorem dX11_houseLine_107 : decode cX11_houseLine 107 = .ok (.sipush 999, 3) := by decide +kernel
theorem dX11_houseLine_110 : decode cX11_houseLine 110 = .ok (.invokevirtual 264, 3) := by decide +kernel
theorem dX11_houseLine_113 : decode cX11_houseLine 113 = .ok (.iastore, 1) := by decide +kernel
theorem dX11_houseLine_114 : decode cX11_houseLine 114 = .ok (.aload_n 0, 1) := by decide +kernel
theorem dX11_houseLine_115 : decode cX11_houseLine 115 = .ok (.getfield 23, 3) := by decide +kernel
theorem dX11_houseLine_118 : decode cX11_houseLine 118 = .ok (.iconst 5, 1) := by decide +kernel
theorem dX11_houseLine_119 : decode cX11_houseLine 119 = .ok (.aload_n 0, 1) := by decide +kernel
theorem dX11_houseLine_120 : decode cX11_houseLine 120 = .ok (.ldc_w 275, 3) := by decide +kernel
theorem dX11_houseLine_123 : decode cX11_houseLine 123 = .ok (.iconst 0, 1) := by decide +kernel
theorem dX11_houseLine_124 : decode cX11_houseLine 124 = .ok (.sipush 999, 3) := by decide +kernel
theorem dX11_houseLine_127 : decode cX11_houseLine 127 = .ok (.invokevirtual 264, 3) := by decide +kernel
theorem dX11_houseLine_130 : decode cX11_houseLine 130 = .ok (.iastore, 1) := by decide +kernel
theorem dX11_houseLine_131 : decode cX11_houseLine 131 = .ok (.aload_n 0, 1) := by decide +kernel
theorem dX11_houseLine_132 : decode cX11_houseLine 132 = .ok (.getfield 121, 3) := by decide +kernel
theorem dX11_houseLine_135 : decode cX11_houseLine 135 = .ok (.ifCond .ne 11, 3) := by decide +kernel
theorem dX11_houseLine_138 : decode cX11_houseLine 138 = .ok (.aload_n 0, 1) := by decide +kernel
theorem dX11_houseLine_139 : decode cX11_houseLine 139 = .ok (.getfield 23, 3) := by decide +kernel
theorem dX11_houseLine_142 : decode cX11_houseLine 142 = .ok (.bipush 15, 2) := by decide +kernel
theorem dX11_houseLine_144 : decode cX11_houseLine 144 = .ok (.iconst 1, 1) := by decide +kernel
theorem dX11_houseLine_145 : decode cX11_houseLine 145 = .ok (.iastore, 1) := by decide +kernel
theorem dX11_houseLine_146 : decode cX11_houseLine 146 = .ok (.return_, 1) := by decide +kernel
set_option maxHeartbeats 4000000 in
set_option maxRecDepth 100000 in
theorem m_houseLine (l : Launch) (g : Gx) (h0 : Nat) (m_thrown : Int32) (a_tape : Nat) (m_taped : Int32) (m_size : Int32) (m_at : Int32) (m_end : Int32) (m_token : Int32) (m_whole : Int32) (m_nameSize : Int32) (m_fault : Int32) (m_place : Int32) (m_trouble : Int32) (a_letters : Nat) (m_failed : Int32) (m_hasHouse : Int32) (a_r : Nat) (a_fresh : Nat) (a_st : Nat) (a_undone : Nat) (a_kept : Nat) (m_undos : Int32) (m_images : Int32) (a_from : Nat) (a_begin : Nat) (a_motor : Nat) (a_change : Nat) (a_startFrame : Nat) (a_changeFrame : Nat) (a_lostAt : Nat) (a_blackAt : Nat) (a_slips : Nat) (a_leftArc : Nat) (a_died : Nat) (a_arcs : Nat) (m_bestSum : Int32) (m_nearest : Int32) (m_nearestTown : Int32) (a_there : Nat) (a_backAt : Nat) (a_sorted : Nat) (a_parts : Nat) (m_seed1 : Int32) (m_darkNow : Int32) (d_tape : Nat → Int32) (d_letters : Nat → Int32) (d_fresh : Nat → Int32) (hv_m_size : IV m_size 0 900) (hv_m_end : IV m_end 0 900) (hv_m_nameSize : IV m_nameSize 0 900) (hv_m_failed : IV m_failed 0 1) (hp_d_fresh : RInv d_fresh) (hr_0 : TRI d_fresh) (hc_0 : m_token = 2 → IV m_nameSize 0 8) : cV l g yX11_houseLine cX11_houseLine 1 8 173 0 0 [.ref h0] [(h0, .inr (11, [.int m_thrown, .ref a_tape, .int m_taped, .int m_size, .int m_at, .int m_end, .int m_token, .int m_whole, .int m_nameSize, .int m_fault, .int m_place, .int m_trouble, .ref a_letters, .int m_failed, .int m_hasHouse, .ref a_r, .ref a_fresh, .ref a_st, .ref a_undone, .ref a_kept, .int m_undos, .int m_images, .ref a_from, .ref a_begin, .ref a_motor, .ref a_change, .ref a_startFrame, .ref a_changeFrame, .ref a_lostAt, .ref a_blackAt, .ref a_slips, .ref a_leftArc, .ref a_died, .ref a_arcs, .int m_bestSum, .int m_nearest, .int m_nearestTown, .ref a_there, .ref a_backAt, .ref a_sorted, .ref a_parts, .int m_seed1, .int m_darkNow])), (a_tape, .inl (g.2.2.1, 900, .inl d_tape)), (a_letters, .inl (g.2.2.1, 8, .inl d_letters)), (a_fresh, .inl (g.2.2.1, 311, .inl d_fresh))] (fun w => ∃ (m_at2 : Int32) (m_end2 : Int32) (m_failed2 : Int32) (m_fault2 : Int32) (d_fresh2 : Nat → Int32) (d_letters2 : Nat → Int32) (m_nameSize2 : Int32) (m_place2 : Int32) (m_token2 : Int32) (m_whole2 : Int32), IV m_end2 0 900 ∧ IV m_failed2 0 1 ∧ IV m_nameSize2 0 900 ∧ RInv d_fresh2 ∧ (m_end.toInt ≤ m_end2.toInt) ∧ (TRI d_fresh2) ∧ (m_token2 = 2 → IV m_nameSize2 0 8) ∧ w = [(h0, .inr (11, [.int m_thrown, .ref a_tape, .int m_taped, .int m_size, .int m_at2, .int m_end2, .int m_token2, .int m_whole2, .int m_nameSize2, .int m_fault2, .int m_place2, .int m_trouble, .ref a_letters, .int m_failed2, .int m_hasHouse, .ref a_r, .ref a_fresh, .ref a_st, .ref a_undone, .ref a_kept, .int m_undos, .int m_images, .ref a_from, .ref a_begin, .ref a_motor, .ref a_change, .ref a_startFrame, .ref a_changeFrame, .ref a_lostAt, .ref a_blackAt, .ref a_slips, .ref a_leftArc, .ref a_died, .ref a_arcs, .int m_bestSum, .int m_nearest, .int m_nearestTown, .ref a_there, .ref a_backAt, .ref a_sorted, .ref a_parts, .int m_seed1, .int m_darkNow])), (a_tape, .inl (g.2.2.1, 900, .inl d_tape)), (a_letters, .inl (g.2.2.1, 8, .inl d_letters2)), (a_fresh, .inl (g.2.2.1, 311, .inl d_fresh2))]) := by
  refine cV.of (by decide) (Nat.le_of_ble_eq_true rfl) ?_
  intro p e s m args below meth c A X hr hi
  refine k_lveq [(0, .ref h0)] rfl ?_
  refine k_aload_n X dX11_houseLine_0 0 rfl ?_
  refine k_get (ci := 11) X inlX11 rfl 16 (by decide) dX11_houseLine_1 mw171 0 rfl rfl ?_
  refine k_bipush (v := 15) X dX11_houseLine_4 (by decide) ?_
  refine k_iald X dX11_houseLine_6 3 rfl (by unfold vp_in; decide) ?_
  refine k_nm (fun z_1 ez_1 => ?_)
  refine k_iconst (v := 1) X dX11_houseLine_7 (by decide) ?_
  refine k_ic_ne 20 X dX11_houseLine_8 (by decide) (fun h_2 => ?_) (fun h_2 => ?_)
  · skip
    refine k_aload_n X dX11_houseLine_20 0 rfl ?_
    refine k_get (ci := 11) X inlX11 rfl 13 (by decide) dX11_houseLine_21 mw469 0 rfl rfl ?_
    refine k_if_eq 28 X dX11_houseLine_24 (by decide) (fun h_3 => ?_) (fun h_3 => ?_)
    · skip
      have iv_4 : IV m_failed 0 0 := iv_meet hv_m_failed (iv_e h_3 (show IV 0 0 0 from (by decide))) (by decide) (by decide)
      refine k_aload_n X dX11_houseLine_28 0 rfl ?_
      refine k_callVV (n := 0) (As := []) (st := []) X [(h0, .inr (11, [.int m_thrown, .ref a_tape, .int m_taped, .int m_size, .int m_at, .int m_end, .int m_token, .int m_whole, .int m_nameSize, .int m_fault, .int m_place, .int m_trouble, .ref a_letters, .int m_failed, .int m_hasHouse, .ref a_r, .ref a_fresh, .ref a_st, .ref a_undone, .ref a_kept, .int m_undos, .int m_images, .ref a_from, .ref a_begin, .ref a_motor, .ref a_change, .ref a_startFrame, .ref a_changeFrame, .ref a_lostAt, .ref a_blackAt, .ref a_slips, .ref a_leftArc, .ref a_died, .ref a_arcs, .int m_bestSum, .int m_nearest, .int m_nearestTown, .ref a_there, .ref a_backAt, .ref a_sorted, .ref a_parts, .int m_seed1, .int m_darkNow])), (a_tape, .inl (g.2.2.1, 900, .inl d_tape)), (a_letters, .inl (g.2.2.1, 8, .inl d_letters))] [(a_fresh, .inl (g.2.2.1, 311, .inl d_fresh))] [0, 1, 2] [3] (m_next l g h0 m_thrown a_tape m_taped m_size m_at m_end m_token m_whole m_nameSize m_fault m_place m_trouble a_letters m_failed m_hasHouse a_r a_fresh a_st a_undone a_kept m_undos m_images a_from a_begin a_motor a_change a_startFrame a_changeFrame a_lostAt a_blackAt a_slips a_leftArc a_died a_arcs m_bestSum m_nearest m_nearestTown a_there a_backAt a_sorted a_parts m_seed1 m_darkNow d_tape d_letters (iv_w hv_m_size (by decide) (by decide)) (iv_w hv_m_end (by decide) (by decide)) (iv_w hv_m_nameSize (by decide) (by decide))) dX11_houseLine_29 mw489 mw490 mw491 mw5 mw492 rfl 11 rfl rfl 0 _ rfl (by unfold yOk; decide) rfl (Nat.le_of_ble_eq_true rfl) (Nat.le_of_ble_eq_true rfl) (Nat.le_of_ble_eq_true rfl) (Nat.le_of_ble_eq_true rfl) (Nat.le_of_ble_eq_true rfl) rfl rfl (by decide) rfl (by decide) (by decide) ?_
      rintro w ⟨m_at2_5, m_end2_6, d_letters2_7, m_nameSize2_8, m_token2_9, m_whole2_10, iv_12, iv_13, hq_14, hq_15, hk_16, rfl⟩
      refine k_ws [(a_fresh, .inl (g.2.2.1, 311, .inl d_fresh)), (h0, .inr (11, [.int m_thrown, .ref a_tape, .int m_taped, .int m_size, .int m_at2_5, .int m_end2_6, .int m_token2_9, .int m_whole2_10, .int m_nameSize2_8, .int m_fault, .int m_place, .int m_trouble, .ref a_letters, .int m_failed, .int m_hasHouse, .ref a_r, .ref a_fresh, .ref a_st, .ref a_undone, .ref a_kept, .int m_undos, .int m_images, .ref a_from, .ref a_begin, .ref a_motor, .ref a_change, .ref a_startFrame, .ref a_changeFrame, .ref a_lostAt, .ref a_blackAt, .ref a_slips, .ref a_leftArc, .ref a_died, .ref a_arcs, .int m_bestSum, .int m_nearest, .int m_nearestTown, .ref a_there, .ref a_backAt, .ref a_sorted, .ref a_parts, .int m_seed1, .int m_darkNow])), (a_tape, .inl (g.2.2.1, 900, .inl d_tape)), (a_letters, .inl (g.2.2.1, 8, .inl d_letters2_7))] rfl ?_
      refine k_aload_n X dX11_houseLine_32 0 rfl ?_
      refine k_get (ci := 11) X inlX11 rfl 16 (by decide) dX11_houseLine_33 mw171 1 rfl rfl ?_
      refine k_iconst (v := 0) X dX11_houseLine_36 (by decide) ?_
      refine k_aload_n X dX11_houseLine_37 0 rfl ?_
      refine k_ldcwS (tx := "apart") X dX11_houseLine_38 (by decide +kernel) (fun sr_17 hsr_17 => ?_)
      refine k_iconst (v := 1) X dX11_houseLine_41 (by decide) ?_
      refine k_bipush (v := 50) X dX11_houseLine_42 (by decide) ?_
      refine k_callVI (n := 3) (As := [.ref sr_17, .int 1, .int 50]) (st := [.int 0, .ref a_fresh]) X [(h0, .inr (11, [.int m_thrown, .ref a_tape, .int m_taped, .int m_size, .int m_at2_5, .int m_end2_6, .int m_token2_9, .int m_whole2_10, .int m_nameSize2_8, .int m_fault, .int m_place, .int m_trouble, .ref a_letters, .int m_failed, .int m_hasHouse, .ref a_r, .ref a_fresh, .ref a_st, .ref a_undone, .ref a_kept, .int m_undos, .int m_images, .ref a_from, .ref a_begin, .ref a_motor, .ref a_change, .ref a_startFrame, .ref a_changeFrame, .ref a_lostAt, .ref a_blackAt, .ref a_slips, .ref a_leftArc, .ref a_died, .ref a_arcs, .int m_bestSum, .int m_nearest, .int m_nearestTown, .ref a_there, .ref a_backAt, .ref a_sorted, .ref a_parts, .int m_seed1, .int m_darkNow])), (a_tape, .inl (g.2.2.1, 900, .inl d_tape)), (a_letters, .inl (g.2.2.1, 8, .inl d_letters2_7))] [(a_fresh, .inl (g.2.2.1, 311, .inl d_fresh))] [1, 2, 3] [0] (m_after l g h0 sr_17 1 50 m_thrown a_tape m_taped m_size m_at2_5 m_end2_6 m_token2_9 m_whole2_10 m_nameSize2_8 m_fault m_place m_trouble a_letters m_failed m_hasHouse a_r a_fresh a_st a_undone a_kept m_undos m_images a_from a_begin a_motor a_change a_startFrame a_changeFrame a_lostAt a_blackAt a_slips a_leftArc a_died a_arcs m_bestSum m_nearest m_nearestTown a_there a_backAt a_sorted a_parts m_seed1 m_darkNow d_tape d_letters2_7 ("apart") (iv_w hv_m_size (by decide) (by decide)) (iv_w iv_12 (by decide) (by decide)) (iv_w iv_13 (by decide) (by decide)) (iv_w iv_4 (by decide) (by decide)) hsr_17 hk_16) dX11_houseLine_44 mw523 mw524 mw525 mw5 mw526 rfl 11 rfl rfl 0 _ rfl (by unfold yOk; decide) rfl (Nat.le_of_ble_eq_true rfl) (Nat.le_of_ble_eq_true rfl) (Nat.le_of_ble_eq_true rfl) (Nat.le_of_ble_eq_true rfl) (Nat.le_of_ble_eq_true rfl) rfl rfl (by decide) rfl (by decide) (by decide) ?_
      rintro r_27 w ⟨m_at2_18, m_end2_19, m_failed2_20, m_fault2_21, d_letters2_22, m_nameSize2_23, m_place2_24, m_token2_25, m_whole2_26, iv_28, iv_29, iv_30, hq_31, hq_32, hk_33, rfl⟩
      refine k_ws [(a_fresh, .inl (g.2.2.1, 311, .inl d_fresh)), (h0, .inr (11, [.int m_thrown, .ref a_tape, .int m_taped, .int m_size, .int m_at2_18, .int m_end2_19, .int m_token2_25, .int m_whole2_26, .int m_nameSize2_23, .int m_fault2_21, .int m_place2_24, .int m_trouble, .ref a_letters, .int m_failed2_20, .int m_hasHouse, .ref a_r, .ref a_fresh, .ref a_st, .ref a_undone, .ref a_kept, .int m_undos, .int m_images, .ref a_from, .ref a_begin, .ref a_motor, .ref a_change, .ref a_startFrame, .ref a_changeFrame, .ref a_lostAt, .ref a_blackAt, .ref a_slips, .ref a_leftArc, .ref a_died, .ref a_arcs, .int m_bestSum, .int m_nearest, .int m_nearestTown, .ref a_there, .ref a_backAt, .ref a_sorted, .ref a_parts, .int m_seed1, .int m_darkNow])), (a_tape, .inl (g.2.2.1, 900, .inl d_tape)), (a_letters, .inl (g.2.2.1, 8, .inl d_letters2_22))] rfl ?_
      have e_34 : (1 : Int32).toInt = 1 := by decide
      have e_35 : (50 : Int32).toInt = 50 := by decide
      have iv_36 : IV r_27 1 50 := by have := (show IV 1 1 1 from (by decide)); have := (show IV 50 50 50 from (by decide)); rw [IV]; omega
      refine k_iast [(a_fresh, .inl (g.2.2.1, 311, .inl (upd d_fresh (0 : Int32).toNatClampNeg r_27))), (h0, .inr (11, [.int m_thrown, .ref a_tape, .int m_taped, .int m_size, .int m_at2_18, .int m_end2_19, .int m_token2_25, .int m_whole2_26, .int m_nameSize2_23, .int m_fault2_21, .int m_place2_24, .int m_trouble, .ref a_letters, .int m_failed2_20, .int m_hasHouse, .ref a_r, .ref a_fresh, .ref a_st, .ref a_undone, .ref a_kept, .int m_undos, .int m_images, .ref a_from, .ref a_begin, .ref a_motor, .ref a_change, .ref a_startFrame, .ref a_changeFrame, .ref a_lostAt, .ref a_blackAt, .ref a_slips, .ref a_leftArc, .ref a_died, .ref a_arcs, .int m_bestSum, .int m_nearest, .int m_nearestTown, .ref a_there, .ref a_backAt, .ref a_sorted, .ref a_parts, .int m_seed1, .int m_darkNow])), (a_tape, .inl (g.2.2.1, 900, .inl d_tape)), (a_letters, .inl (g.2.2.1, 8, .inl d_letters2_22))] X dX11_houseLine_47 0 rfl (by unfold vp_in; decide) rfl ?_
      refine (fun hg : ∀ fa_37 : Nat → Int32, fa_37 = upd d_fresh (0 : Int32).toNatClampNeg r_27 → RInv fa_37 → Wk p l e _ s m args below meth c _ A g _ _ _ [(a_fresh, .inl (g.2.2.1, 311, .inl fa_37)), (h0, .inr (11, [.int m_thrown, .ref a_tape, .int m_taped, .int m_size, .int m_at2_18, .int m_end2_19, .int m_token2_25, .int m_whole2_26, .int m_nameSize2_23, .int m_fault2_21, .int m_place2_24, .int m_trouble, .ref a_letters, .int m_failed2_20, .int m_hasHouse, .ref a_r, .ref a_fresh, .ref a_st, .ref a_undone, .ref a_kept, .int m_undos, .int m_images, .ref a_from, .ref a_begin, .ref a_motor, .ref a_change, .ref a_startFrame, .ref a_changeFrame, .ref a_lostAt, .ref a_blackAt, .ref a_slips, .ref a_leftArc, .ref a_died, .ref a_arcs, .int m_bestSum, .int m_nearest, .int m_nearestTown, .ref a_there, .ref a_backAt, .ref a_sorted, .ref a_parts, .int m_seed1, .int m_darkNow])), (a_tape, .inl (g.2.2.1, 900, .inl d_tape)), (a_letters, .inl (g.2.2.1, 8, .inl d_letters2_22))] _ _ _ => hg _ rfl (w_fr_0 hp_d_fresh)) (fun fa_37 eq_40 hR_38 => ?_)
      have hT_41 : TRI fa_37 := by rw [eq_40]; exact tri_n (z := 0) hr_0 hp_d_fresh (by decide) (by decide) (by decide) (by decide)
      refine k_aload_n X dX11_houseLine_48 0 rfl ?_
      refine k_get (ci := 11) X inlX11 rfl 16 (by decide) dX11_houseLine_49 mw171 1 rfl rfl ?_
      refine k_iconst (v := 1) X dX11_houseLine_52 (by decide) ?_
      refine k_aload_n X dX11_houseLine_53 0 rfl ?_
      refine k_ldcwS (tx := "motor") X dX11_houseLine_54 (by decide +kernel) (fun sr_42 hsr_42 => ?_)
      refine k_iconst (v := 0) X dX11_houseLine_57 (by decide) ?_
      refine k_bipush (v := 50) X dX11_houseLine_58 (by decide) ?_
      refine k_callVI (n := 3) (As := [.ref sr_42, .int 0, .int 50]) (st := [.int 1, .ref a_fresh]) X [(h0, .inr (11, [.int m_thrown, .ref a_tape, .int m_taped, .int m_size, .int m_at2_18, .int m_end2_19, .int m_token2_25, .int m_whole2_26, .int m_nameSize2_23, .int m_fault2_21, .int m_place2_24, .int m_trouble, .ref a_letters, .int m_failed2_20, .int m_hasHouse, .ref a_r, .ref a_fresh, .ref a_st, .ref a_undone, .ref a_kept, .int m_undos, .int m_images, .ref a_from, .ref a_begin, .ref a_motor, .ref a_change, .ref a_startFrame, .ref a_changeFrame, .ref a_lostAt, .ref a_blackAt, .ref a_slips, .ref a_leftArc, .ref a_died, .ref a_arcs, .int m_bestSum, .int m_nearest, .int m_nearestTown, .ref a_there, .ref a_backAt, .ref a_sorted, .ref a_parts, .int m_seed1, .int m_darkNow])), (a_tape, .inl (g.2.2.1, 900, .inl d_tape)), (a_letters, .inl (g.2.2.1, 8, .inl d_letters2_22))] [(a_fresh, .inl (g.2.2.1, 311, .inl fa_37))] [1, 2, 3] [0] (m_after l g h0 sr_42 0 50 m_thrown a_tape m_taped m_size m_at2_18 m_end2_19 m_token2_25 m_whole2_26 m_nameSize2_23 m_fault2_21 m_place2_24 m_trouble a_letters m_failed2_20 m_hasHouse a_r a_fresh a_st a_undone a_kept m_undos m_images a_from a_begin a_motor a_change a_startFrame a_changeFrame a_lostAt a_blackAt a_slips a_leftArc a_died a_arcs m_bestSum m_nearest m_nearestTown a_there a_backAt a_sorted a_parts m_seed1 m_darkNow d_tape d_letters2_22 ("motor") (iv_w hv_m_size (by decide) (by decide)) (iv_w iv_28 (by decide) (by decide)) (iv_w iv_30 (by decide) (by decide)) (iv_w iv_29 (by decide) (by decide)) hsr_42 hk_33) dX11_houseLine_60 mw523 mw524 mw525 mw5 mw526 rfl 11 rfl rfl 0 _ rfl (by unfold yOk; decide) rfl (Nat.le_of_ble_eq_true rfl) (Nat.le_of_ble_eq_true rfl) (Nat.le_of_ble_eq_true rfl) (Nat.le_of_ble_eq_true rfl) (Nat.le_of_ble_eq_true rfl) rfl rfl (by decide) rfl (by decide) (by decide) ?_
      rintro r_52 w ⟨m_at2_43, m_end2_44, m_failed2_45, m_fault2_46, d_letters2_47, m_nameSize2_48, m_place2_49, m_token2_50, m_whole2_51, iv_53, iv_54, iv_55, hq_56, hq_57, hk_58, rfl⟩
      refine k_ws [(a_fresh, .inl (g.2.2.1, 311, .inl fa_37)), (h0, .inr (11, [.int m_thrown, .ref a_tape, .int m_taped, .int m_size, .int m_at2_43, .int m_end2_44, .int m_token2_50, .int m_whole2_51, .int m_nameSize2_48, .int m_fault2_46, .int m_place2_49, .int m_trouble, .ref a_letters, .int m_failed2_45, .int m_hasHouse, .ref a_r, .ref a_fresh, .ref a_st, .ref a_undone, .ref a_kept, .int m_undos, .int m_images, .ref a_from, .ref a_begin, .ref a_motor, .ref a_change, .ref a_startFrame, .ref a_changeFrame, .ref a_lostAt, .ref a_blackAt, .ref a_slips, .ref a_leftArc, .ref a_died, .ref a_arcs, .int m_bestSum, .int m_nearest, .int m_nearestTown, .ref a_there, .ref a_backAt, .ref a_sorted, .ref a_parts, .int m_seed1, .int m_darkNow])), (a_tape, .inl (g.2.2.1, 900, .inl d_tape)), (a_letters, .inl (g.2.2.1, 8, .inl d_letters2_47))] rfl ?_
      have e_59 : (0 : Int32).toInt = 0 := by decide
      have e_60 : (50 : Int32).toInt = 50 := by decide
      have iv_61 : IV r_52 0 50 := by have := (show IV 0 0 0 from (by decide)); have := (show IV 50 50 50 from (by decide)); rw [IV]; omega
      refine k_iast [(a_fresh, .inl (g.2.2.1, 311, .inl (upd fa_37 (1 : Int32).toNatClampNeg r_52))), (h0, .inr (11, [.int m_thrown, .ref a_tape, .int m_taped, .int m_size, .int m_at2_43, .int m_end2_44, .int m_token2_50, .int m_whole2_51, .int m_nameSize2_48, .int m_fault2_46, .int m_place2_49, .int m_trouble, .ref a_letters, .int m_failed2_45, .int m_hasHouse, .ref a_r, .ref a_fresh, .ref a_st, .ref a_undone, .ref a_kept, .int m_undos, .int m_images, .ref a_from, .ref a_begin, .ref a_motor, .ref a_change, .ref a_startFrame, .ref a_changeFrame, .ref a_lostAt, .ref a_blackAt, .ref a_slips, .ref a_leftArc, .ref a_died, .ref a_arcs, .int m_bestSum, .int m_nearest, .int m_nearestTown, .ref a_there, .ref a_backAt, .ref a_sorted, .ref a_parts, .int m_seed1, .int m_darkNow])), (a_tape, .inl (g.2.2.1, 900, .inl d_tape)), (a_letters, .inl (g.2.2.1, 8, .inl d_letters2_47))] X dX11_houseLine_63 0 rfl (by unfold vp_in; decide) rfl ?_
      refine (fun hg : ∀ fa_62 : Nat → Int32, fa_62 = upd fa_37 (1 : Int32).toNatClampNeg r_52 → RInv fa_62 → Wk p l e _ s m args below meth c _ A g _ _ _ [(a_fresh, .inl (g.2.2.1, 311, .inl fa_62)), (h0, .inr (11, [.int m_thrown, .ref a_tape, .int m_taped, .int m_size, .int m_at2_43, .int m_end2_44, .int m_token2_50, .int m_whole2_51, .int m_nameSize2_48, .int m_fault2_46, .int m_place2_49, .int m_trouble, .ref a_letters, .int m_failed2_45, .int m_hasHouse, .ref a_r, .ref a_fresh, .ref a_st, .ref a_undone, .ref a_kept, .int m_undos, .int m_images, .ref a_from, .ref a_begin, .ref a_motor, .ref a_change, .ref a_startFrame, .ref a_changeFrame, .ref a_lostAt, .ref a_blackAt, .ref a_slips, .ref a_leftArc, .ref a_died, .ref a_arcs, .int m_bestSum, .int m_nearest, .int m_nearestTown, .ref a_there, .ref a_backAt, .ref a_sorted, .ref a_parts, .int m_seed1, .int m_darkNow])), (a_tape, .inl (g.2.2.1, 900, .inl d_tape)), (a_letters, .inl (g.2.2.1, 8, .inl d_letters2_47))] _ _ _ => hg _ rfl (w_fr_1 hR_38)) (fun fa_62 eq_65 hR_63 => ?_)
      have hT_66 : TRI fa_62 := by rw [eq_65]; exact tri_n (z := 1) hT_41 hR_38 (by decide) (by decide) (by decide) (by decide)
      refine k_aload_n X dX11_houseLine_64 0 rfl ?_
      refine k_get (ci := 11) X inlX11 rfl 16 (by decide) dX11_houseLine_65 mw171 1 rfl rfl ?_
      refine k_iconst (v := 2) X dX11_houseLine_68 (by decide) ?_
      refine k_aload_n X dX11_houseLine_69 0 rfl ?_
      refine k_ldcwS (tx := "leader") X dX11_houseLine_70 (by decide +kernel) (fun sr_67 hsr_67 => ?_)
      refine k_iconst (v := 0) X dX11_houseLine_73 (by decide) ?_
      refine k_bipush (v := 99) X dX11_houseLine_74 (by decide) ?_
      refine k_callVI (n := 3) (As := [.ref sr_67, .int 0, .int 99]) (st := [.int 2, .ref a_fresh]) X [(h0, .inr (11, [.int m_thrown, .ref a_tape, .int m_taped, .int m_size, .int m_at2_43, .int m_end2_44, .int m_token2_50, .int m_whole2_51, .int m_nameSize2_48, .int m_fault2_46, .int m_place2_49, .int m_trouble, .ref a_letters, .int m_failed2_45, .int m_hasHouse, .ref a_r, .ref a_fresh, .ref a_st, .ref a_undone, .ref a_kept, .int m_undos, .int m_images, .ref a_from, .ref a_begin, .ref a_motor, .ref a_change, .ref a_startFrame, .ref a_changeFrame, .ref a_lostAt, .ref a_blackAt, .ref a_slips, .ref a_leftArc, .ref a_died, .ref a_arcs, .int m_bestSum, .int m_nearest, .int m_nearestTown, .ref a_there, .ref a_backAt, .ref a_sorted, .ref a_parts, .int m_seed1, .int m_darkNow])), (a_tape, .inl (g.2.2.1, 900, .inl d_tape)), (a_letters, .inl (g.2.2.1, 8, .inl d_letters2_47))] [(a_fresh, .inl (g.2.2.1, 311, .inl fa_62))] [1, 2, 3] [0] (m_after l g h0 sr_67 0 99 m_thrown a_tape m_taped m_size m_at2_43 m_end2_44 m_token2_50 m_whole2_51 m_nameSize2_48 m_fault2_46 m_place2_49 m_trouble a_letters m_failed2_45 m_hasHouse a_r a_fresh a_st a_undone a_kept m_undos m_images a_from a_begin a_motor a_change a_startFrame a_changeFrame a_lostAt a_blackAt a_slips a_leftArc a_died a_arcs m_bestSum m_nearest m_nearestTown a_there a_backAt a_sorted a_parts m_seed1 m_darkNow d_tape d_letters2_47 ("leader") (iv_w hv_m_size (by decide) (by decide)) (iv_w iv_53 (by decide) (by decide)) (iv_w iv_55 (by decide) (by decide)) (iv_w iv_54 (by decide) (by decide)) hsr_67 hk_58) dX11_houseLine_76 mw523 mw524 mw525 mw5 mw526 rfl 11 rfl rfl 0 _ rfl (by unfold yOk; decide) rfl (Nat.le_of_ble_eq_true rfl) (Nat.le_of_ble_eq_true rfl) (Nat.le_of_ble_eq_true rfl) (Nat.le_of_ble_eq_true rfl) (Nat.le_of_ble_eq_true rfl) rfl rfl (by decide) rfl (by decide) (by decide) ?_
      rintro r_77 w ⟨m_at2_68, m_end2_69, m_failed2_70, m_fault2_71, d_letters2_72, m_nameSize2_73, m_place2_74, m_token2_75, m_whole2_76, iv_78, iv_79, iv_80, hq_81, hq_82, hk_83, rfl⟩
      refine k_ws [(a_fresh, .inl (g.2.2.1, 311, .inl fa_62)), (h0, .inr (11, [.int m_thrown, .ref a_tape, .int m_taped, .int m_size, .int m_at2_68, .int m_end2_69, .int m_token2_75, .int m_whole2_76, .int m_nameSize2_73, .int m_fault2_71, .int m_place2_74, .int m_trouble, .ref a_letters, .int m_failed2_70, .int m_hasHouse, .ref a_r, .ref a_fresh, .ref a_st, .ref a_undone, .ref a_kept, .int m_undos, .int m_images, .ref a_from, .ref a_begin, .ref a_motor, .ref a_change, .ref a_startFrame, .ref a_changeFrame, .ref a_lostAt, .ref a_blackAt, .ref a_slips, .ref a_leftArc, .ref a_died, .ref a_arcs, .int m_bestSum, .int m_nearest, .int m_nearestTown, .ref a_there, .ref a_backAt, .ref a_sorted, .ref a_parts, .int m_seed1, .int m_darkNow])), (a_tape, .inl (g.2.2.1, 900, .inl d_tape)), (a_letters, .inl (g.2.2.1, 8, .inl d_letters2_72))] rfl ?_
      have e_84 : (0 : Int32).toInt = 0 := by decide
      have e_85 : (99 : Int32).toInt = 99 := by decide
      have iv_86 : IV r_77 0 99 := by have := (show IV 0 0 0 from (by decide)); have := (show IV 99 99 99 from (by decide)); rw [IV]; omega
      refine k_iast [(a_fresh, .inl (g.2.2.1, 311, .inl (upd fa_62 (2 : Int32).toNatClampNeg r_77))), (h0, .inr (11, [.int m_thrown, .ref a_tape, .int m_taped, .int m_size, .int m_at2_68, .int m_end2_69, .int m_token2_75, .int m_whole2_76, .int m_nameSize2_73, .int m_fault2_71, .int m_place2_74, .int m_trouble, .ref a_letters, .int m_failed2_70, .int m_hasHouse, .ref a_r, .ref a_fresh, .ref a_st, .ref a_undone, .ref a_kept, .int m_undos, .int m_images, .ref a_from, .ref a_begin, .ref a_motor, .ref a_change, .ref a_startFrame, .ref a_changeFrame, .ref a_lostAt, .ref a_blackAt, .ref a_slips, .ref a_leftArc, .ref a_died, .ref a_arcs, .int m_bestSum, .int m_nearest, .int m_nearestTown, .ref a_there, .ref a_backAt, .ref a_sorted, .ref a_parts, .int m_seed1, .int m_darkNow])), (a_tape, .inl (g.2.2.1, 900, .inl d_tape)), (a_letters, .inl (g.2.2.1, 8, .inl d_letters2_72))] X dX11_houseLine_79 0 rfl (by unfold vp_in; decide) rfl ?_
      refine (fun hg : ∀ fa_87 : Nat → Int32, fa_87 = upd fa_62 (2 : Int32).toNatClampNeg r_77 → RInv fa_87 → Wk p l e _ s m args below meth c _ A g _ _ _ [(a_fresh, .inl (g.2.2.1, 311, .inl fa_87)), (h0, .inr (11, [.int m_thrown, .ref a_tape, .int m_taped, .int m_size, .int m_at2_68, .int m_end2_69, .int m_token2_75, .int m_whole2_76, .int m_nameSize2_73, .int m_fault2_71, .int m_place2_74, .int m_trouble, .ref a_letters, .int m_failed2_70, .int m_hasHouse, .ref a_r, .ref a_fresh, .ref a_st, .ref a_undone, .ref a_kept, .int m_undos, .int m_images, .ref a_from, .ref a_begin, .ref a_motor, .ref a_change, .ref a_startFrame, .ref a_changeFrame, .ref a_lostAt, .ref a_blackAt, .ref a_slips, .ref a_leftArc, .ref a_died, .ref a_arcs, .int m_bestSum, .int m_nearest, .int m_nearestTown, .ref a_there, .ref a_backAt, .ref a_sorted, .ref a_parts, .int m_seed1, .int m_darkNow])), (a_tape, .inl (g.2.2.1, 900, .inl d_tape)), (a_letters, .inl (g.2.2.1, 8, .inl d_letters2_72))] _ _ _ => hg _ rfl (w_fr_2 hR_63)) (fun fa_87 eq_90 hR_88 => ?_)
      have hT_91 : TRI fa_87 := by rw [eq_90]; exact tri_n (z := 2) hT_66 hR_63 (by decide) (by decide) (by decide) (by decide)
      refine k_aload_n X dX11_houseLine_80 0 rfl ?_
      refine k_get (ci := 11) X inlX11 rfl 16 (by decide) dX11_houseLine_81 mw171 1 rfl rfl ?_
      refine k_iconst (v := 3) X dX11_houseLine_84 (by decide) ?_
      refine k_aload_n X dX11_houseLine_85 0 rfl ?_
      refine k_ldcwS (tx := "burns") X dX11_houseLine_86 (by decide +kernel) (fun sr_92 hsr_92 => ?_)
      refine k_iconst (v := 1) X dX11_houseLine_89 (by decide) ?_
      refine k_sipush (v := 9999) X dX11_houseLine_90 (by decide) ?_
      refine k_callVI (n := 3) (As := [.ref sr_92, .int 1, .int 9999]) (st := [.int 3, .ref a_fresh]) X [(h0, .inr (11, [.int m_thrown, .ref a_tape, .int m_taped, .int m_size, .int m_at2_68, .int m_end2_69, .int m_token2_75, .int m_whole2_76, .int m_nameSize2_73, .int m_fault2_71, .int m_place2_74, .int m_trouble, .ref a_letters, .int m_failed2_70, .int m_hasHouse, .ref a_r, .ref a_fresh, .ref a_st, .ref a_undone, .ref a_kept, .int m_undos, .int m_images, .ref a_from, .ref a_begin, .ref a_motor, .ref a_change, .ref a_startFrame, .ref a_changeFrame, .ref a_lostAt, .ref a_blackAt, .ref a_slips, .ref a_leftArc, .ref a_died, .ref a_arcs, .int m_bestSum, .int m_nearest, .int m_nearestTown, .ref a_there, .ref a_backAt, .ref a_sorted, .ref a_parts, .int m_seed1, .int m_darkNow])), (a_tape, .inl (g.2.2.1, 900, .inl d_tape)), (a_letters, .inl (g.2.2.1, 8, .inl d_letters2_72))] [(a_fresh, .inl (g.2.2.1, 311, .inl fa_87))] [1, 2, 3] [0] (m_after l g h0 sr_92 1 9999 m_thrown a_tape m_taped m_size m_at2_68 m_end2_69 m_token2_75 m_whole2_76 m_nameSize2_73 m_fault2_71 m_place2_74 m_trouble a_letters m_failed2_70 m_hasHouse a_r a_fresh a_st a_undone a_kept m_undos m_images a_from a_begin a_motor a_change a_startFrame a_changeFrame a_lostAt a_blackAt a_slips a_leftArc a_died a_arcs m_bestSum m_nearest m_nearestTown a_there a_backAt a_sorted a_parts m_seed1 m_darkNow d_tape d_letters2_72 ("burns") (iv_w hv_m_size (by decide) (by decide)) (iv_w iv_78 (by decide) (by decide)) (iv_w iv_80 (by decide) (by decide)) (iv_w iv_79 (by decide) (by decide)) hsr_92 hk_83) dX11_houseLine_93 mw523 mw524 mw525 mw5 mw526 rfl 11 rfl rfl 0 _ rfl (by unfold yOk; decide) rfl (Nat.le_of_ble_eq_true rfl) (Nat.le_of_ble_eq_true rfl) (Nat.le_of_ble_eq_true rfl) (Nat.le_of_ble_eq_true rfl) (Nat.le_of_ble_eq_true rfl) rfl rfl (by decide) rfl (by decide) (by decide) ?_
      rintro r_102 w ⟨m_at2_93, m_end2_94, m_failed2_95, m_fault2_96, d_letters2_97, m_nameSize2_98, m_place2_99, m_token2_100, m_whole2_101, iv_103, iv_104, iv_105, hq_106, hq_107, hk_108, rfl⟩
      refine k_ws [(a_fresh, .inl (g.2.2.1, 311, .inl fa_87)), (h0, .inr (11, [.int m_thrown, .ref a_tape, .int m_taped, .int m_size, .int m_at2_93, .int m_end2_94, .int m_token2_100, .int m_whole2_101, .int m_nameSize2_98, .int m_fault2_96, .int m_place2_99, .int m_trouble, .ref a_letters, .int m_failed2_95, .int m_hasHouse, .ref a_r, .ref a_fresh, .ref a_st, .ref a_undone, .ref a_kept, .int m_undos, .int m_images, .ref a_from, .ref a_begin, .ref a_motor, .ref a_change, .ref a_startFrame, .ref a_changeFrame, .ref a_lostAt, .ref a_blackAt, .ref a_slips, .ref a_leftArc, .ref a_died, .ref a_arcs, .int m_bestSum, .int m_nearest, .int m_nearestTown, .ref a_there, .ref a_backAt, .ref a_sorted, .ref a_parts, .int m_seed1, .int m_darkNow])), (a_tape, .inl (g.2.2.1, 900, .inl d_tape)), (a_letters, .inl (g.2.2.1, 8, .inl d_letters2_97))] rfl ?_
      have e_109 : (1 : Int32).toInt = 1 := by decide
      have e_110 : (9999 : Int32).toInt = 9999 := by decide
      have iv_111 : IV r_102 1 9999 := by have := (show IV 1 1 1 from (by decide)); have := (show IV 9999 9999 9999 from (by decide)); rw [IV]; omega
      refine k_iast [(a_fresh, .inl (g.2.2.1, 311, .inl (upd fa_87 (3 : Int32).toNatClampNeg r_102))), (h0, .inr (11, [.int m_thrown, .ref a_tape, .int m_taped, .int m_size, .int m_at2_93, .int m_end2_94, .int m_token2_100, .int m_whole2_101, .int m_nameSize2_98, .int m_fault2_96, .int m_place2_99, .int m_trouble, .ref a_letters, .int m_failed2_95, .int m_hasHouse, .ref a_r, .ref a_fresh, .ref a_st, .ref a_undone, .ref a_kept, .int m_undos, .int m_images, .ref a_from, .ref a_begin, .ref a_motor, .ref a_change, .ref a_startFrame, .ref a_changeFrame, .ref a_lostAt, .ref a_blackAt, .ref a_slips, .ref a_leftArc, .ref a_died, .ref a_arcs, .int m_bestSum, .int m_nearest, .int m_nearestTown, .ref a_there, .ref a_backAt, .ref a_sorted, .ref a_parts, .int m_seed1, .int m_darkNow])), (a_tape, .inl (g.2.2.1, 900, .inl d_tape)), (a_letters, .inl (g.2.2.1, 8, .inl d_letters2_97))] X dX11_houseLine_96 0 rfl (by unfold vp_in; decide) rfl ?_
      refine (fun hg : ∀ fa_112 : Nat → Int32, fa_112 = upd fa_87 (3 : Int32).toNatClampNeg r_102 → RInv fa_112 → Wk p l e _ s m args below meth c _ A g _ _ _ [(a_fresh, .inl (g.2.2.1, 311, .inl fa_112)), (h0, .inr (11, [.int m_thrown, .ref a_tape, .int m_taped, .int m_size, .int m_at2_93, .int m_end2_94, .int m_token2_100, .int m_whole2_101, .int m_nameSize2_98, .int m_fault2_96, .int m_place2_99, .int m_trouble, .ref a_letters, .int m_failed2_95, .int m_hasHouse, .ref a_r, .ref a_fresh, .ref a_st, .ref a_undone, .ref a_kept, .int m_undos, .int m_images, .ref a_from, .ref a_begin, .ref a_motor, .ref a_change, .ref a_startFrame, .ref a_changeFrame, .ref a_lostAt, .ref a_blackAt, .ref a_slips, .ref a_leftArc, .ref a_died, .ref a_arcs, .int m_bestSum, .int m_nearest, .int m_nearestTown, .ref a_there, .ref a_backAt, .ref a_sorted, .ref a_parts, .int m_seed1, .int m_darkNow])), (a_tape, .inl (g.2.2.1, 900, .inl d_tape)), (a_letters, .inl (g.2.2.1, 8, .inl d_letters2_97))] _ _ _ => hg _ rfl (w_fr_3 hR_88)) (fun fa_112 eq_115 hR_113 => ?_)
      have hT_116 : TRI fa_112 := by rw [eq_115]; exact tri_n (z := 3) hT_91 hR_88 (by decide) (by decide) (by decide) (by decide)
      refine k_aload_n X dX11_houseLine_97 0 rfl ?_
      refine k_get (ci := 11) X inlX11 rfl 16 (by decide) dX11_houseLine_98 mw171 1 rfl rfl ?_
      refine k_iconst (v := 4) X dX11_houseLine_101 (by decide) ?_
      refine k_aload_n X dX11_houseLine_102 0 rfl ?_
      refine k_ldcwS (tx := "trim") X dX11_houseLine_103 (by decide +kernel) (fun sr_117 hsr_117 => ?_)
      refine k_iconst (v := 0) X dX11_houseLine_106 (by decide) ?_
      refine k_sipush (v := 999) X dX11_houseLine_107 (by decide) ?_
      refine k_callVI (n := 3) (As := [.ref sr_117, .int 0, .int 999]) (st := [.int 4, .ref a_fresh]) X [(h0, .inr (11, [.int m_thrown, .ref a_tape, .int m_taped, .int m_size, .int m_at2_93, .int m_end2_94, .int m_token2_100, .int m_whole2_101, .int m_nameSize2_98, .int m_fault2_96, .int m_place2_99, .int m_trouble, .ref a_letters, .int m_failed2_95, .int m_hasHouse, .ref a_r, .ref a_fresh, .ref a_st, .ref a_undone, .ref a_kept, .int m_undos, .int m_images, .ref a_from, .ref a_begin, .ref a_motor, .ref a_change, .ref a_startFrame, .ref a_changeFrame, .ref a_lostAt, .ref a_blackAt, .ref a_slips, .ref a_leftArc, .ref a_died, .ref a_arcs, .int m_bestSum, .int m_nearest, .int m_nearestTown, .ref a_there, .ref a_backAt, .ref a_sorted, .ref a_parts, .int m_seed1, .int m_darkNow])), (a_tape, .inl (g.2.2.1, 900, .inl d_tape)), (a_letters, .inl (g.2.2.1, 8, .inl d_letters2_97))] [(a_fresh, .inl (g.2.2.1, 311, .inl fa_112))] [1, 2, 3] [0] (m_after l g h0 sr_117 0 999 m_thrown a_tape m_taped m_size m_at2_93 m_end2_94 m_token2_100 m_whole2_101 m_nameSize2_98 m_fault2_96 m_place2_99 m_trouble a_letters m_failed2_95 m_hasHouse a_r a_fresh a_st a_undone a_kept m_undos m_images a_from a_begin a_motor a_change a_startFrame a_changeFrame a_lostAt a_blackAt a_slips a_leftArc a_died a_arcs m_bestSum m_nearest m_nearestTown a_there a_backAt a_sorted a_parts m_seed1 m_darkNow d_tape d_letters2_97 ("trim") (iv_w hv_m_size (by decide) (by decide)) (iv_w iv_103 (by decide) (by decide)) (iv_w iv_105 (by decide) (by decide)) (iv_w iv_104 (by decide) (by decide)) hsr_117 hk_108) dX11_houseLine_110 mw523 mw524 mw525 mw5 mw526 rfl 11 rfl rfl 0 _ rfl (by unfold yOk; decide) rfl (Nat.le_of_ble_eq_true rfl) (Nat.le_of_ble_eq_true rfl) (Nat.le_of_ble_eq_true rfl) (Nat.le_of_ble_eq_true rfl) (Nat.le_of_ble_eq_true rfl) rfl rfl (by decide) rfl (by decide) (by decide) ?_
      rintro r_127 w ⟨m_at2_118, m_end2_119, m_failed2_120, m_fault2_121, d_letters2_122, m_nameSize2_123, m_place2_124, m_token2_125, m_whole2_126, iv_128, iv_129, iv_130, hq_131, hq_132, hk_133, rfl⟩
      refine k_ws [(a_fresh, .inl (g.2.2.1, 311, .inl fa_112)), (h0, .inr (11, [.int m_thrown, .ref a_tape, .int m_taped, .int m_size, .int m_at2_118, .int m_end2_119, .int m_token2_125, .int m_whole2_126, .int m_nameSize2_123, .int m_fault2_121, .int m_place2_124, .int m_trouble, .ref a_letters, .int m_failed2_120, .int m_hasHouse, .ref a_r, .ref a_fresh, .ref a_st, .ref a_undone, .ref a_kept, .int m_undos, .int m_images, .ref a_from, .ref a_begin, .ref a_motor, .ref a_change, .ref a_startFrame, .ref a_changeFrame, .ref a_lostAt, .ref a_blackAt, .ref a_slips, .ref a_leftArc, .ref a_died, .ref a_arcs, .int m_bestSum, .int m_nearest, .int m_nearestTown, .ref a_there, .ref a_backAt, .ref a_sorted, .ref a_parts, .int m_seed1, .int m_darkNow])), (a_tape, .inl (g.2.2.1, 900, .inl d_tape)), (a_letters, .inl (g.2.2.1, 8, .inl d_letters2_122))] rfl ?_
      have e_134 : (0 : Int32).toInt = 0 := by decide
      have e_135 : (999 : Int32).toInt = 999 := by decide
      have iv_136 : IV r_127 0 999 := by have := (show IV 0 0 0 from (by decide)); have := (show IV 999 999 999 from (by decide)); rw [IV]; omega
      refine k_iast [(a_fresh, .inl (g.2.2.1, 311, .inl (upd fa_112 (4 : Int32).toNatClampNeg r_127))), (h0, .inr (11, [.int m_thrown, .ref a_tape, .int m_taped, .int m_size, .int m_at2_118, .int m_end2_119, .int m_token2_125, .int m_whole2_126, .int m_nameSize2_123, .int m_fault2_121, .int m_place2_124, .int m_trouble, .ref a_letters, .int m_failed2_120, .int m_hasHouse, .ref a_r, .ref a_fresh, .ref a_st, .ref a_undone, .ref a_kept, .int m_undos, .int m_images, .ref a_from, .ref a_begin, .ref a_motor, .ref a_change, .ref a_startFrame, .ref a_changeFrame, .ref a_lostAt, .ref a_blackAt, .ref a_slips, .ref a_leftArc, .ref a_died, .ref a_arcs, .int m_bestSum, .int m_nearest, .int m_nearestTown, .ref a_there, .ref a_backAt, .ref a_sorted, .ref a_parts, .int m_seed1, .int m_darkNow])), (a_tape, .inl (g.2.2.1, 900, .inl d_tape)), (a_letters, .inl (g.2.2.1, 8, .inl d_letters2_122))] X dX11_houseLine_113 0 rfl (by unfold vp_in; decide) rfl ?_
      refine (fun hg : ∀ fa_137 : Nat → Int32, fa_137 = upd fa_112 (4 : Int32).toNatClampNeg r_127 → RInv fa_137 → Wk p l e _ s m args below meth c _ A g _ _ _ [(a_fresh, .inl (g.2.2.1, 311, .inl fa_137)), (h0, .inr (11, [.int m_thrown, .ref a_tape, .int m_taped, .int m_size, .int m_at2_118, .int m_end2_119, .int m_token2_125, .int m_whole2_126, .int m_nameSize2_123, .int m_fault2_121, .int m_place2_124, .int m_trouble, .ref a_letters, .int m_failed2_120, .int m_hasHouse, .ref a_r, .ref a_fresh, .ref a_st, .ref a_undone, .ref a_kept, .int m_undos, .int m_images, .ref a_from, .ref a_begin, .ref a_motor, .ref a_change, .ref a_startFrame, .ref a_changeFrame, .ref a_lostAt, .ref a_blackAt, .ref a_slips, .ref a_leftArc, .ref a_died, .ref a_arcs, .int m_bestSum, .int m_nearest, .int m_nearestTown, .ref a_there, .ref a_backAt, .ref a_sorted, .ref a_parts, .int m_seed1, .int m_darkNow])), (a_tape, .inl (g.2.2.1, 900, .inl d_tape)), (a_letters, .inl (g.2.2.1, 8, .inl d_letters2_122))] _ _ _ => hg _ rfl (w_fr_4 hR_113)) (fun fa_137 eq_140 hR_138 => ?_)
      have hT_141 : TRI fa_137 := by rw [eq_140]; exact tri_n (z := 4) hT_116 hR_113 (by decide) (by decide) (by decide) (by decide)
      refine k_aload_n X dX11_houseLine_114 0 rfl ?_
      refine k_get (ci := 11) X inlX11 rfl 16 (by decide) dX11_houseLine_115 mw171 1 rfl rfl ?_
      refine k_iconst (v := 5) X dX11_houseLine_118 (by decide) ?_
      refine k_aload_n X dX11_houseLine_119 0 rfl ?_
      refine k_ldcwS (tx := "mend") X dX11_houseLine_120 (by decide +kernel) (fun sr_142 hsr_142 => ?_)
      refine k_iconst (v := 0) X dX11_houseLine_123 (by decide) ?_
      refine k_sipush (v := 999) X dX11_houseLine_124 (by decide) ?_
      refine k_callVI (n := 3) (As := [.ref sr_142, .int 0, .int 999]) (st := [.int 5, .ref a_fresh]) X [(h0, .inr (11, [.int m_thrown, .ref a_tape, .int m_taped, .int m_size, .int m_at2_118, .int m_end2_119, .int m_token2_125, .int m_whole2_126, .int m_nameSize2_123, .int m_fault2_121, .int m_place2_124, .int m_trouble, .ref a_letters, .int m_failed2_120, .int m_hasHouse, .ref a_r, .ref a_fresh, .ref a_st, .ref a_undone, .ref a_kept, .int m_undos, .int m_images, .ref a_from, .ref a_begin, .ref a_motor, .ref a_change, .ref a_startFrame, .ref a_changeFrame, .ref a_lostAt, .ref a_blackAt, .ref a_slips, .ref a_leftArc, .ref a_died, .ref a_arcs, .int m_bestSum, .int m_nearest, .int m_nearestTown, .ref a_there, .ref a_backAt, .ref a_sorted, .ref a_parts, .int m_seed1, .int m_darkNow])), (a_tape, .inl (g.2.2.1, 900, .inl d_tape)), (a_letters, .inl (g.2.2.1, 8, .inl d_letters2_122))] [(a_fresh, .inl (g.2.2.1, 311, .inl fa_137))] [1, 2, 3] [0] (m_after l g h0 sr_142 0 999 m_thrown a_tape m_taped m_size m_at2_118 m_end2_119 m_token2_125 m_whole2_126 m_nameSize2_123 m_fault2_121 m_place2_124 m_trouble a_letters m_failed2_120 m_hasHouse a_r a_fresh a_st a_undone a_kept m_undos m_images a_from a_begin a_motor a_change a_startFrame a_changeFrame a_lostAt a_blackAt a_slips a_leftArc a_died a_arcs m_bestSum m_nearest m_nearestTown a_there a_backAt a_sorted a_parts m_seed1 m_darkNow d_tape d_letters2_122 ("mend") (iv_w hv_m_size (by decide) (by decide)) (iv_w iv_128 (by decide) (by decide)) (iv_w iv_130 (by decide) (by decide)) (iv_w iv_129 (by decide) (by decide)) hsr_142 hk_133) dX11_houseLine_127 mw523 mw524 mw525 mw5 mw526 rfl 11 rfl rfl 0 _ rfl (by unfold yOk; decide) rfl (Nat.le_of_ble_eq_true rfl) (Nat.le_of_ble_eq_true rfl) (Nat.le_of_ble_eq_true rfl) (Nat.le_of_ble_eq_true rfl) (Nat.le_of_ble_eq_true rfl) rfl rfl (by decide) rfl (by decide) (by decide) ?_
      rintro r_152 w ⟨m_at2_143, m_end2_144, m_failed2_145, m_fault2_146, d_letters2_147, m_nameSize2_148, m_place2_149, m_token2_150, m_whole2_151, iv_153, iv_154, iv_155, hq_156, hq_157, hk_158, rfl⟩
      refine k_ws [(a_fresh, .inl (g.2.2.1, 311, .inl fa_137)), (h0, .inr (11, [.int m_thrown, .ref a_tape, .int m_taped, .int m_size, .int m_at2_143, .int m_end2_144, .int m_token2_150, .int m_whole2_151, .int m_nameSize2_148, .int m_fault2_146, .int m_place2_149, .int m_trouble, .ref a_letters, .int m_failed2_145, .int m_hasHouse, .ref a_r, .ref a_fresh, .ref a_st, .ref a_undone, .ref a_kept, .int m_undos, .int m_images, .ref a_from, .ref a_begin, .ref a_motor, .ref a_change, .ref a_startFrame, .ref a_changeFrame, .ref a_lostAt, .ref a_blackAt, .ref a_slips, .ref a_leftArc, .ref a_died, .ref a_arcs, .int m_bestSum, .int m_nearest, .int m_nearestTown, .ref a_there, .ref a_backAt, .ref a_sorted, .ref a_parts, .int m_seed1, .int m_darkNow])), (a_tape, .inl (g.2.2.1, 900, .inl d_tape)), (a_letters, .inl (g.2.2.1, 8, .inl d_letters2_147))] rfl ?_
      have e_159 : (0 : Int32).toInt = 0 := by decide
      have e_160 : (999 : Int32).toInt = 999 := by decide
      have iv_161 : IV r_152 0 999 := by have := (show IV 0 0 0 from (by decide)); have := (show IV 999 999 999 from (by decide)); rw [IV]; omega
      refine k_iast [(a_fresh, .inl (g.2.2.1, 311, .inl (upd fa_137 (5 : Int32).toNatClampNeg r_152))), (h0, .inr (11, [.int m_thrown, .ref a_tape, .int m_taped, .int m_size, .int m_at2_143, .int m_end2_144, .int m_token2_150, .int m_whole2_151, .int m_nameSize2_148, .int m_fault2_146, .int m_place2_149, .int m_trouble, .ref a_letters, .int m_failed2_145, .int m_hasHouse, .ref a_r, .ref a_fresh, .ref a_st, .ref a_undone, .ref a_kept, .int m_undos, .int m_images, .ref a_from, .ref a_begin, .ref a_motor, .ref a_change, .ref a_startFrame, .ref a_changeFrame, .ref a_lostAt, .ref a_blackAt, .ref a_slips, .ref a_leftArc, .ref a_died, .ref a_arcs, .int m_bestSum, .int m_nearest, .int m_nearestTown, .ref a_there, .ref a_backAt, .ref a_sorted, .ref a_parts, .int m_seed1, .int m_darkNow])), (a_tape, .inl (g.2.2.1, 900, .inl d_tape)), (a_letters, .inl (g.2.2.1, 8, .inl d_letters2_147))] X dX11_houseLine_130 0 rfl (by unfold vp_in; decide) rfl ?_
      refine (fun hg : ∀ fa_162 : Nat → Int32, fa_162 = upd fa_137 (5 : Int32).toNatClampNeg r_152 → RInv fa_162 → Wk p l e _ s m args below meth c _ A g _ _ _ [(a_fresh, .inl (g.2.2.1, 311, .inl fa_162)), (h0, .inr (11, [.int m_thrown, .ref a_tape, .int m_taped, .int m_size, .int m_at2_143, .int m_end2_144, .int m_token2_150, .int m_whole2_151, .int m_nameSize2_148, .int m_fault2_146, .int m_place2_149, .int m_trouble, .ref a_letters, .int m_failed2_145, .int m_hasHouse, .ref a_r, .ref a_fresh, .ref a_st, .ref a_undone, .ref a_kept, .int m_undos, .int m_images, .ref a_from, .ref a_begin, .ref a_motor, .ref a_change, .ref a_startFrame, .ref a_changeFrame, .ref a_lostAt, .ref a_blackAt, .ref a_slips, .ref a_leftArc, .ref a_died, .ref a_arcs, .int m_bestSum, .int m_nearest, .int m_nearestTown, .ref a_there, .ref a_backAt, .ref a_sorted, .ref a_parts, .int m_seed1, .int m_darkNow])), (a_tape, .inl (g.2.2.1, 900, .inl d_tape)), (a_letters, .inl (g.2.2.1, 8, .inl d_letters2_147))] _ _ _ => hg _ rfl (w_fr_5 hR_138)) (fun fa_162 eq_165 hR_163 => ?_)
      have hT_166 : TRI fa_162 := by rw [eq_165]; exact tri_n (z := 5) hT_141 hR_138 (by decide) (by decide) (by decide) (by decide)
      refine k_aload_n X dX11_houseLine_131 0 rfl ?_
      refine k_get (ci := 11) X inlX11 rfl 13 (by decide) dX11_houseLine_132 mw469 1 rfl rfl ?_
      refine k_if_ne 146 X dX11_houseLine_135 (by decide) (fun h_167 => ?_) (fun h_167 => ?_)
      · skip
        have iv_168 : IV m_failed2_145 1 1 := iv_neL h_167 iv_154 (show IV 0 0 0 from (by decide)) (by decide)
        exact k_vret X hr dX11_houseLine_146 (Nat.le_of_ble_eq_true rfl) (Nat.le_of_ble_eq_true rfl) [1, 2, 3, 0] (by decide) rfl rfl ⟨m_at2_143, m_end2_144, m_failed2_145, m_fault2_146, fa_162, d_letters2_147, m_nameSize2_148, m_place2_149, m_token2_150, m_whole2_151, (iv_w iv_153 (by decide) (by decide)), (iv_w iv_168 (by decide) (by decide)), (iv_w iv_155 (by decide) (by decide)), hR_163, (by omega), hT_166, hk_158, rfl⟩
      · skip
        have iv_169 : IV m_failed2_145 0 0 := iv_meet iv_154 (iv_e h_167 (show IV 0 0 0 from (by decide))) (by decide) (by decide)
        refine k_aload_n X dX11_houseLine_138 0 rfl ?_
        refine k_get (ci := 11) X inlX11 rfl 16 (by decide) dX11_houseLine_139 mw171 1 rfl rfl ?_
        refine k_bipush (v := 15) X dX11_houseLine_142 (by decide) ?_
        refine k_iconst (v := 1) X dX11_houseLine_144 (by decide) ?_
        refine k_iast [(a_fresh, .inl (g.2.2.1, 311, .inl (upd fa_162 (15 : Int32).toNatClampNeg 1))), (h0, .inr (11, [.int m_thrown, .ref a_tape, .int m_taped, .int m_size, .int m_at2_143, .int m_end2_144, .int m_token2_150, .int m_whole2_151, .int m_nameSize2_148, .int m_fault2_146, .int m_place2_149, .int m_trouble, .ref a_letters, .int m_failed2_145, .int m_hasHouse, .ref a_r, .ref a_fresh, .ref a_st, .ref a_undone, .ref a_kept, .int m_undos, .int m_images, .ref a_from, .ref a_begin, .ref a_motor, .ref a_change, .ref a_startFrame, .ref a_changeFrame, .ref a_lostAt, .ref a_blackAt, .ref a_slips, .ref a_leftArc, .ref a_died, .ref a_arcs, .int m_bestSum, .int m_nearest, .int m_nearestTown, .ref a_there, .ref a_backAt, .ref a_sorted, .ref a_parts, .int m_seed1, .int m_darkNow])), (a_tape, .inl (g.2.2.1, 900, .inl d_tape)), (a_letters, .inl (g.2.2.1, 8, .inl d_letters2_147))] X dX11_houseLine_145 0 rfl (by unfold vp_in; decide) rfl ?_
        refine (fun hg : ∀ fa_170 : Nat → Int32, fa_170 = upd fa_162 (15 : Int32).toNatClampNeg 1 → RInv fa_170 → Wk p l e _ s m args below meth c _ A g _ _ _ [(a_fresh, .inl (g.2.2.1, 311, .inl fa_170)), (h0, .inr (11, [.int m_thrown, .ref a_tape, .int m_taped, .int m_size, .int m_at2_143, .int m_end2_144, .int m_token2_150, .int m_whole2_151, .int m_nameSize2_148, .int m_fault2_146, .int m_place2_149, .int m_trouble, .ref a_letters, .int m_failed2_145, .int m_hasHouse, .ref a_r, .ref a_fresh, .ref a_st, .ref a_undone, .ref a_kept, .int m_undos, .int m_images, .ref a_from, .ref a_begin, .ref a_motor, .ref a_change, .ref a_startFrame, .ref a_changeFrame, .ref a_lostAt, .ref a_blackAt, .ref a_slips, .ref a_leftArc, .ref a_died, .ref a_arcs, .int m_bestSum, .int m_nearest, .int m_nearestTown, .ref a_there, .ref a_backAt, .ref a_sorted, .ref a_parts, .int m_seed1, .int m_darkNow])), (a_tape, .inl (g.2.2.1, 900, .inl d_tape)), (a_letters, .inl (g.2.2.1, 8, .inl d_letters2_147))] _ _ _ => hg _ rfl (w_fr_15 hR_163)) (fun fa_170 eq_173 hR_171 => ?_)
        have hT_174 : TRI fa_170 := by rw [eq_173]; exact tri_n (z := 15) hT_166 hR_163 (by decide) (by decide) (by decide) (by decide)
        exact k_vret X hr dX11_houseLine_146 (Nat.le_of_ble_eq_true rfl) (Nat.le_of_ble_eq_true rfl) [1, 2, 3, 0] (by decide) rfl rfl ⟨m_at2_143, m_end2_144, m_failed2_145, m_fault2_146, fa_170, d_letters2_147, m_nameSize2_148, m_place2_149, m_token2_150, m_whole2_151, (iv_w iv_153 (by decide) (by decide)), (iv_w iv_169 (by decide) (by decide)), (iv_w iv_155 (by decide) (by decide)), hR_171, (by omega), hT_174, hk_158, rfl⟩
    · skip
      have iv_175 : IV m_failed 1 1 := iv_neL h_3 hv_m_failed (show IV 0 0 0 from (by decide)) (by decide)
      exact k_vret X hr dX11_houseLine_27 (Nat.le_of_ble_eq_true rfl) (Nat.le_of_ble_eq_true rfl) [0, 1, 2, 3] (by decide) rfl rfl ⟨m_at, m_end, m_failed, m_fault, d_fresh, d_letters, m_nameSize, m_place, m_token, m_whole, (iv_w hv_m_end (by decide) (by decide)), (iv_w iv_175 (by decide) (by decide)), (iv_w hv_m_nameSize (by decide) (by decide)), hp_d_fresh, (by omega), hr_0, hc_0, rfl⟩
  · skip
    have iv_176 : IV z_1 1 1 := iv_meet (iv_any z_1) (iv_e h_2 (show IV 1 1 1 from (by decide))) (by decide) (by decide)
    refine k_aload_n X dX11_houseLine_11 0 rfl ?_
    refine k_iconst (v := 3) X dX11_houseLine_12 (by decide) ?_
    refine k_aload_n X dX11_houseLine_13 0 rfl ?_
    refine k_get (ci := 11) X inlX11 rfl 4 (by decide) dX11_houseLine_14 mw473 0 rfl rfl ?_
    refine k_callVV (n := 2) (As := [.int 3, .int m_at]) (st := []) X [(h0, .inr (11, [.int m_thrown, .ref a_tape, .int m_taped, .int m_size, .int m_at, .int m_end, .int m_token, .int m_whole, .int m_nameSize, .int m_fault, .int m_place, .int m_trouble, .ref a_letters, .int m_failed, .int m_hasHouse, .ref a_r, .ref a_fresh, .ref a_st, .ref a_undone, .ref a_kept, .int m_undos, .int m_images, .ref a_from, .ref a_begin, .ref a_motor, .ref a_change, .ref a_startFrame, .ref a_changeFrame, .ref a_lostAt, .ref a_blackAt, .ref a_slips, .ref a_leftArc, .ref a_died, .ref a_arcs, .int m_bestSum, .int m_nearest, .int m_nearestTown, .ref a_there, .ref a_backAt, .ref a_sorted, .ref a_parts, .int m_seed1, .int m_darkNow]))] [(a_tape, .inl (g.2.2.1, 900, .inl d_tape)), (a_letters, .inl (g.2.2.1, 8, .inl d_letters)), (a_fresh, .inl (g.2.2.1, 311, .inl d_fresh))] [0] [1, 2, 3] (m_bad l g h0 3 m_at m_thrown a_tape m_taped m_size m_at m_end m_token m_whole m_nameSize m_fault m_place m_trouble a_letters m_failed m_hasHouse a_r a_fresh a_st a_undone a_kept m_undos m_images a_from a_begin a_motor a_change a_startFrame a_changeFrame a_lostAt a_blackAt a_slips a_leftArc a_died a_arcs m_bestSum m_nearest m_nearestTown a_there a_backAt a_sorted a_parts m_seed1 m_darkNow (iv_w hv_m_failed (by decide) (by decide))) dX11_houseLine_17 mw519 mw520 mw521 mw5 mw522 rfl 11 rfl rfl 0 _ rfl (by unfold yOk; decide) rfl (Nat.le_of_ble_eq_true rfl) (Nat.le_of_ble_eq_true rfl) (Nat.le_of_ble_eq_true rfl) (Nat.le_of_ble_eq_true rfl) (Nat.le_of_ble_eq_true rfl) rfl rfl (by decide) rfl (by decide) (by decide) ?_
    rintro w ⟨m_failed2_177, m_fault2_178, m_place2_179, iv_181, rfl⟩
    refine k_ws [(a_tape, .inl (g.2.2.1, 900, .inl d_tape)), (a_letters, .inl (g.2.2.1, 8, .inl d_letters)), (a_fresh, .inl (g.2.2.1, 311, .inl d_fresh)), (h0, .inr (11, [.int m_thrown, .ref a_tape, .int m_taped, .int m_size, .int m_at, .int m_end, .int m_token, .int m_whole, .int m_nameSize, .int m_fault2_178, .int m_place2_179, .int m_trouble, .ref a_letters, .int m_failed2_177, .int m_hasHouse, .ref a_r, .ref a_fresh, .ref a_st, .ref a_undone, .ref a_kept, .int m_undos, .int m_images, .ref a_from, .ref a_begin, .ref a_motor, .ref a_change, .ref a_startFrame, .ref a_changeFrame, .ref a_lostAt, .ref a_blackAt, .ref a_slips, .ref a_leftArc, .ref a_died, .ref a_arcs, .int m_bestSum, .int m_nearest, .int m_nearestTown, .ref a_there, .ref a_backAt, .ref a_sorted, .ref a_parts, .int m_seed1, .int m_darkNow]))] rfl ?_
    refine k_aload_n X dX11_houseLine_20 0 rfl ?_
    refine k_get (ci := 11) X inlX11 rfl 13 (by decide) dX11_houseLine_21 mw469 3 rfl rfl ?_
    refine k_if_eq 28 X dX11_houseLine_24 (by decide) (fun h_182 => (iv_eqN h_182 iv_181 (show IV 0 0 0 from (by decide)) (by decide)).elim) (fun h_182 => ?_)
    exact k_vret X hr dX11_houseLine_27 (Nat.le_of_ble_eq_true rfl) (Nat.le_of_ble_eq_true rfl) [3, 0, 1, 2] (by decide) rfl rfl ⟨m_at, m_end, m_failed2_177, m_fault2_178, d_fresh, d_letters, m_nameSize, m_place2_179, m_token, m_whole, (iv_w hv_m_end (by decide) (by decide)), (iv_w iv_181 (by decide) (by decide)), (iv_w hv_m_nameSize (by decide) (by decide)), hp_d_fresh, (by omega), hr_0, hc_0, rfl⟩

theorem dX11_reelLine_0 : decode cX11_reelLine 0 = .ok (.aload_n 0, 1) := by decide +kernel
theorem dX11_reelLine_1 : decode cX11_reelLine 1 = .ok (.getfield 121, 3) := by decide +kernel
theorem dX11_reelLine_4 : decode cX11_reelLine 4 = .ok (.ifCond .eq 4, 3) := by decide +kernel
theorem dX11_reelLine_7 : decode cX11_reelLine 7 = .ok (.return_, 1) := by decide +kernel
theorem dX11_reelLine_8 : decode cX11_reelLine 8 = .ok (.bipush 16, 2) := by decide +kernel
theorem dX11_reelLine_10 : decode cX11_reelLine 10 = .ok (.iconst 3, 1) := by decide +kernel
theorem dX11_reelLine_11 : decode cX11_reelLine 11 = .ok (.aload_n 0, 1) := by decide +kernel
theorem dX11_reelLine_12 : decode cX11_reelLine 12 = .ok (.getfield 23, 3) := by decide +kernel
theorem dX11_reelLine_15 : decode cX11_reelLine 15 = .ok (.bipush 6, 2) := by decide +kernel
theorem dX11_reelLine_17 : decode cX11_reelLine 17 = .ok (.iaload, 1) := by decide +kernel
theorem dX11_reelLine_18 : decode cX11_reelLine 18 = .ok (.imul, 1) := by decide +kernel
theorem dX11_reelLine_19 : decode cX11_reelLine 19 = .ok (.iadd, 1) := by decide +kernel
theorem dX11_reelLine_20 : decode cX11_reelLine 20 = .ok (.istore_n 1, 1) := by decide +kernel
theorem dX11_reelLine_21 : decode cX11_reelLine 21 = .ok (.aload_n 0, 1) := by decide +kernel
theorem dX11_reelLine_22 : decode cX11_reelLine 22 = .ok (.aload_n 0, 1) := by decide +kernel
theorem dX11_reelLine_23 : decode cX11_reelLine 23 = .ok (.getfield 23, 3) := by decide +kernel
theorem dX11_reelLine_26 : decode cX11_reelLine 26 = .ok (.bipush 6, 2) := by decide +kernel
theorem dX11_reelLine_28 : decode cX11_reelLine 28 = .ok (.iaload, 1) := by decide +kernel
theorem dX11_reelLine_29 : decode cX11_reelLine 29 = .ok (.invokevirtual 277, 3) := by decide +kernel
theorem dX11_reelLine_32 : decode cX11_reelLine 32 = .ok (.aload_n 0, 1) := by decide +kernel
theorem dX11_reelLine_33 : decode cX11_reelLine 33 = .ok (.getfield 23, 3) := by decide +kernel
theorem dX11_reelLine_36 : decode cX11_reelLine 36 = .ok (.iload_n 1, 1) := by decide +kernel
theorem dX11_reelLine_37 : decode cX11_reelLine 37 = .ok (.aload_n 0, 1) := by decide +kernel
theorem dX11_reelLine_38 : decode cX11_reelLine 38 = .ok (.ldc_w 281, 3) := by decide +kernel
theorem dX11_reelLine_41 : decode cX11_reelLine 41 = .ok (.iconst 2, 1) := by decide +kernel
theorem dX11_reelLine_42 : decode cX11_reelLine 42 = .ok (.sipush 2000, 3) := by decide +kernel
theorem dX11_reelLine_45 : decode cX11_reelLine 45 = .ok (.invokevirtual 264, 3) := by decide +kernel
theorem dX11_reelLine_48 : decode cX11_reelLine 48 = .ok (.iastore, 1) := by decide +kernel
theorem dX11_reelLine_49 : decode cX11_reelLine 49 = .ok (.aload_n 0, 1) := by decide +kernel
theorem dX11_reelLine_50 : decode cX11_reelLine 50 = .ok (.getfield 23, 3) := by decide +kernel
theorem dX11_reelLine_53 : decode cX11_reelLine 53 = .ok (.iload_n 1, 1) := by decide +kernel
theorem dX11_reelLine_54 : decode cX11_reelLine 54 = .ok (.iconst 1, 1) := by decide +kernel
theorem dX11_reelLine_55 : decode cX11_reelLine 55 = .ok (.iadd, 1) := by decide +kernel
theorem dX11_reelLine_56 : decode cX11_reelLine 56 = .ok (.aload_n 0, 1) := by decide +kernel
theorem dX11_reelLine_57 : decode cX11_reelLine 57 = .ok (.ldc_w 283, 3) := by decide +kernel
theorem dX11_reelLine_60 : decode cX11_reelLine 60 = .ok (.iconst 0, 1) := by decide +kernel
theorem dX11_reelLine_61 : decode cX11_reelLine 61 = .ok (.aload_n 0, 1) := by decide +kernel
theorem dX11_reelLine_62 : decode cX11_reelLine 62 = .ok (.getfield 23, 3) := by decide +kernel
theorem dX11_reelLine_65 : decode cX11_reelLine 65 = .ok (.iload_n 1, 1) := by decide +kernel
theorem dX11_reelLine_66 : decode cX11_reelLine 66 = .ok (.iaload, 1) := by decide +kernel
theorem dX11_reelLine_67 : decode cX11_reelLine 67 = .ok (.iconst 1, 1) := by decide +kernel
theorem dX11_reelLine_68 : decode cX11_reelLine 68 = .ok (.isub, 1) := by decide +kernel
theorem dX11_reelLine_69 : decode cX11_reelLine 69 = .ok (.invokevirtual 264, 3) := by decide +kernel
theorem dX11_reelLine_72 : decode cX11_reelLine 72 = .ok (.iastore, 1) := by decide +kernel
theorem dX11_reelLine_73 : decode cX11_reelLine 73 = .ok (.aload_n 0, 1) := by decide +kernel
theorem dX11_reelLine_74 : decode cX11_reelLine 74 = .ok (.getfield 23, 3) := by decide +kernel
theorem dX11_reelLine_77 : decode cX11_reelLine 77 = .ok (.iload_n 1, 1) := by decide +kernel
theorem dX11_reelLine_78 : decode cX11_reelLine 78 = .ok (.iconst 2, 1) := by decide +kernel
theorem dX11_reelLine_79 : decode cX11_reelLine 79 = .ok (.iadd, 1) := by decide +kernel
theorem dX11_reelLine_80 : decode cX11_reelLine 80 = .ok (.aload_n 0, 1) := by decide +kernel
theorem dX11_reelLine_81 : decode cX11_reelLine 81 = .ok (.ldc_w 285, 3) := by decide +kernel
theorem dX11_reelLine_84 : decode cX11_reelLine 84 = .ok (.aload_n 0, 1) := by decide +kernel
theorem dX11_reelLine_85 : decode cX11_reelLine 85 = .ok (.getfield 23, 3) := by decide +kernel
theorem dX11_reelLine_88 : decode cX11_reelLine 88 = .ok (.iload_n 1, 1) := by decide +kernel
theorem dX11_reelLine_89 : decode cX11_reelLine 89 = .ok (.iaload, 1) := by decide +kernel
theorem dX11_reelLine_90 : decode cX11_reelLine 90 = .ok (.sipush 2000, 3) := by decide +kernel
theorem dX11_reelLine_93 : decode cX11_reelLine 93 = .ok (.invokevirtual 264, 3) := by decide +kernel
theorem dX11_reelLine_96 : decode cX11_reelLine 96 = .ok (.iastore, 1) := by decide +kernel
theorem dX11_reelLine_97 : decode cX11_reelLine 97 = .ok (.aload_n 0, 1) := by decide +kernel
theorem dX11_reelLine_98 : decode cX11_reelLine 98 = .ok (.getfield 121, 3) := by decide +kernel
theorem dX11_reelLine_101 : decode cX11_reelLine 101 = .ok (.ifCond .ne 14, 3) := by decide +kernel
theorem dX11_reelLine_104 : decode cX11_reelLine 104 = .ok (.aload_n 0, 1) := by decide +kernel
theorem dX11_reelLine_105 : decode cX11_reelLine 105 = .ok (.getfield 23, 3) := by decide +kernel
theorem dX11_reelLine_108 : decode cX11_reelLine 108 = .ok (.bipush 6, 2) := by decide +kernel
theorem dX11_reelLine_110 : decode cX11_reelLine 110 = .ok (.dup2, 1) := by decide +kernel
theorem dX11_reelLine_111 : decode cX11_reelLine 111 = .ok (.iaload, 1) := by decide +kernel
theorem dX11_reelLine_112 : decode cX11_reelLine 112 = .ok (.iconst 1, 1) := by decide +kernel
theorem dX11_reelLine_113 : decode cX11_reelLine 113 = .ok (.iadd, 1) := by decide +kernel
theorem dX11_reelLine_114 : decode cX11_reelLine 114 = .ok (.iastore, 1) := by decide +kernel
theorem dX11_reelLine_115 : decode cX11_reelLine 115 = .ok (.return_, 1) := by decide +kernel
set_option maxHeartbeats 4000000 in
set_option maxRecDepth 100000 in
theorem m_reelLine (l : Launch) (g : Gx) (h0 : Nat) (m_thrown : Int32) (a_tape : Nat) (m_taped : Int32) (m_size : Int32) (m_at : Int32) (m_end : Int32) (m_token : Int32) (m_whole : Int32) (m_nameSize : Int32) (m_fault : Int32) (m_place : Int32) (m_trouble : Int32) (a_letters : Nat) (m_failed : Int32) (m_hasHouse : Int32) (a_r : Nat) (a_fresh : Nat) (a_st : Nat) (a_undone : Nat) (a_kept : Nat) (m_undos : Int32) (m_images : Int32) (a_from : Nat) (a_begin : Nat) (a_motor : Nat) (a_change : Nat) (a_startFrame : Nat) (a_changeFrame : Nat) (a_lostAt : Nat) (a_blackAt : Nat) (a_slips : Nat) (a_leftArc : Nat) (a_died : Nat) (a_arcs : Nat) (m_bestSum : Int32) (m_nearest : Int32) (m_nearestTown : Int32) (a_there : Nat) (a_backAt : Nat) (a_sorted : Nat) (a_parts : Nat) (m_seed1 : Int32) (m_darkNow : Int32) (d_tape : Nat → Int32) (d_letters : Nat → Int32) (d_fresh : Nat → Int32) (hv_m_size : IV m_size 0 900) (hv_m_end : IV m_end 0 900) (hv_m_nameSize : IV m_nameSize 0 900) (hv_m_failed : IV m_failed 0 1) (hp_d_fresh : RInv d_fresh) (hr_0 : TRI d_fresh) (hc_0 : m_failed = 1 ∨ ((d_fresh 6).toInt ≤ 7)) (hc_1 : m_token = 2 → IV m_nameSize 0 8) : cV l g yX11_reelLine cX11_reelLine 2 8 173 0 0 [.ref h0] [(h0, .inr (11, [.int m_thrown, .ref a_tape, .int m_taped, .int m_size, .int m_at, .int m_end, .int m_token, .int m_whole, .int m_nameSize, .int m_fault, .int m_place, .int m_trouble, .ref a_letters, .int m_failed, .int m_hasHouse, .ref a_r, .ref a_fresh, .ref a_st, .ref a_undone, .ref a_kept, .int m_undos, .int m_images, .ref a_from, .ref a_begin, .ref a_motor, .ref a_change, .ref a_startFrame, .ref a_changeFrame, .ref a_lostAt, .ref a_blackAt, .ref a_slips, .ref a_leftArc, .ref a_died, .ref a_arcs, .int m_bestSum, .int m_nearest, .int m_nearestTown, .ref a_there, .ref a_backAt, .ref a_sorted, .ref a_parts, .int m_seed1, .int m_darkNow])), (a_tape, .inl (g.2.2.1, 900, .inl d_tape)), (a_letters, .inl (g.2.2.1, 8, .inl d_letters)), (a_fresh, .inl (g.2.2.1, 311, .inl d_fresh))] (fun w => ∃ (m_at2 : Int32) (m_end2 : Int32) (m_failed2 : Int32) (m_fault2 : Int32) (d_fresh2 : Nat → Int32) (d_letters2 : Nat → Int32) (m_nameSize2 : Int32) (m_place2 : Int32) (m_token2 : Int32) (m_whole2 : Int32), IV m_end2 0 900 ∧ IV m_failed2 0 1 ∧ IV m_nameSize2 0 900 ∧ RInv d_fresh2 ∧ (m_end.toInt ≤ m_end2.toInt) ∧ (TRI d_fresh2) ∧ (m_token2 = 2 → IV m_nameSize2 0 8) ∧ w = [(h0, .inr (11, [.int m_thrown, .ref a_tape, .int m_taped, .int m_size, .int m_at2, .int m_end2, .int m_token2, .int m_whole2, .int m_nameSize2, .int m_fault2, .int m_place2, .int m_trouble, .ref a_letters, .int m_failed2, .int m_hasHouse, .ref a_r, .ref a_fresh, .ref a_st, .ref a_undone, .ref a_kept, .int m_undos, .int m_images, .ref a_from, .ref a_begin, .ref a_motor, .ref a_change, .ref a_startFrame, .ref a_changeFrame, .ref a_lostAt, .ref a_blackAt, .ref a_slips, .ref a_leftArc, .ref a_died, .ref a_arcs, .int m_bestSum, .int m_nearest, .int m_nearestTown, .ref a_there, .ref a_backAt, .ref a_sorted, .ref a_parts, .int m_seed1, .int m_darkNow])), (a_tape, .inl (g.2.2.1, 900, .inl d_tape)), (a_letters, .inl (g.2.2.1, 8, .inl d_letters2)), (a_fresh, .inl (g.2.2.1, 311, .inl d_fresh2))]) := by
  refine cV.of (by decide) (Nat.le_of_ble_eq_true rfl) ?_
  intro p e s m args below meth c A X hr hi
  refine k_lveq [(0, .ref h0)] rfl ?_
  refine k_aload_n X dX11_reelLine_0 0 rfl ?_
  refine k_get (ci := 11) X inlX11 rfl 13 (by decide) dX11_reelLine_1 mw469 0 rfl rfl ?_
  refine k_if_eq 8 X dX11_reelLine_4 (by decide) (fun h_1 => ?_) (fun h_1 => ?_)
  · skip
    have iv_2 : IV m_failed 0 0 := iv_meet hv_m_failed (iv_e h_1 (show IV 0 0 0 from (by decide))) (by decide) (by decide)
    have hc_3 := hc_0.resolve_left (fun q => iv_eqN q iv_2 (show IV 1 1 1 from (by decide)) (by decide))
    have j_4 : (d_fresh 6).toInt ≤ 7 := hc_3
    refine k_bipush (v := 16) X dX11_reelLine_8 (by decide) ?_
    refine k_iconst (v := 3) X dX11_reelLine_10 (by decide) ?_
    refine k_aload_n X dX11_reelLine_11 0 rfl ?_
    refine k_get (ci := 11) X inlX11 rfl 16 (by decide) dX11_reelLine_12 mw171 0 rfl rfl ?_
    refine k_bipush (v := 6) X dX11_reelLine_15 (by decide) ?_
    refine k_iald X dX11_reelLine_17 3 rfl (by unfold vp_in; decide) ?_
    refine k_nm (fun z_5 ez_5 => ?_)
    have i_6 : z_5.toInt = (d_fresh 6).toInt := by rw [ez_5]; rfl
    have iv_7 : IV z_5 0 7 := by have := rb_6 ez_5 hp_d_fresh; rw [IV]; omega
    refine k_imul X dX11_reelLine_18 ?_
    refine k_nm (fun z_8 ez_8 => ?_)
    have i_9 : z_8.toInt = 3 * z_5.toInt := in_mul ez_8 (by decide) (by decide) iv_7 (by decide) (by decide)
    have iv_10 : IV z_8 0 21 := by have := (show IV 3 3 3 from (by decide)); have := iv_7; rw [IV, i_9]; omega
    refine k_iadd X dX11_reelLine_19 ?_
    refine k_nm (fun z_11 ez_11 => ?_)
    have i_12 : z_11.toInt = 16 + z_8.toInt := in_add ez_11 (show IV 16 16 16 from (by decide)) iv_10 (by decide) (by decide)
    have iv_13 : IV z_11 16 37 := by have := (show IV 16 16 16 from (by decide)); have := iv_10; rw [IV, i_12]; omega
    refine k_istore_n [(1, .int z_11), (0, .ref h0)] X dX11_reelLine_20 (by decide) rfl ?_
    refine k_aload_n X dX11_reelLine_21 1 rfl ?_
    refine k_aload_n X dX11_reelLine_22 1 rfl ?_
    refine k_get (ci := 11) X inlX11 rfl 16 (by decide) dX11_reelLine_23 mw171 0 rfl rfl ?_
    refine k_bipush (v := 6) X dX11_reelLine_26 (by decide) ?_
    refine k_iald X dX11_reelLine_28 3 rfl (by unfold vp_in; decide) ?_
    refine k_to z_5 ez_5.symm ?_
    refine k_callVV (n := 1) (As := [.int z_5]) (st := []) X [(h0, .inr (11, [.int m_thrown, .ref a_tape, .int m_taped, .int m_size, .int m_at, .int m_end, .int m_token, .int m_whole, .int m_nameSize, .int m_fault, .int m_place, .int m_trouble, .ref a_letters, .int m_failed, .int m_hasHouse, .ref a_r, .ref a_fresh, .ref a_st, .ref a_undone, .ref a_kept, .int m_undos, .int m_images, .ref a_from, .ref a_begin, .ref a_motor, .ref a_change, .ref a_startFrame, .ref a_changeFrame, .ref a_lostAt, .ref a_blackAt, .ref a_slips, .ref a_leftArc, .ref a_died, .ref a_arcs, .int m_bestSum, .int m_nearest, .int m_nearestTown, .ref a_there, .ref a_backAt, .ref a_sorted, .ref a_parts, .int m_seed1, .int m_darkNow])), (a_tape, .inl (g.2.2.1, 900, .inl d_tape)), (a_letters, .inl (g.2.2.1, 8, .inl d_letters)), (a_fresh, .inl (g.2.2.1, 311, .inl d_fresh))] [] [0, 1, 2, 3] [] (m_newName l g h0 z_5 m_thrown a_tape m_taped m_size m_at m_end m_token m_whole m_nameSize m_fault m_place m_trouble a_letters m_failed m_hasHouse a_r a_fresh a_st a_undone a_kept m_undos m_images a_from a_begin a_motor a_change a_startFrame a_changeFrame a_lostAt a_blackAt a_slips a_leftArc a_died a_arcs m_bestSum m_nearest m_nearestTown a_there a_backAt a_sorted a_parts m_seed1 m_darkNow d_tape d_letters d_fresh (iv_w iv_7 (by decide) (by decide)) (iv_w hv_m_size (by decide) (by decide)) (iv_w hv_m_end (by decide) (by decide)) (iv_w hv_m_nameSize (by decide) (by decide)) (iv_w iv_2 (by decide) (by decide)) hp_d_fresh hc_1) dX11_reelLine_29 mw551 mw552 mw553 mw5 mw554 rfl 11 rfl rfl 0 _ rfl (by unfold yOk; decide) rfl (Nat.le_of_ble_eq_true rfl) (Nat.le_of_ble_eq_true rfl) (Nat.le_of_ble_eq_true rfl) (Nat.le_of_ble_eq_true rfl) (Nat.le_of_ble_eq_true rfl) rfl rfl (by decide) rfl (by decide) (by decide) ?_
    rintro w ⟨m_at2_14, m_end2_15, m_failed2_16, m_fault2_17, d_fresh2_18, d_letters2_19, m_nameSize2_20, m_place2_21, m_token2_22, m_whole2_23, iv_25, iv_26, iv_27, hp_28, hq_29, hq_30, hk_31, rfl⟩
    refine k_ws [(h0, .inr (11, [.int m_thrown, .ref a_tape, .int m_taped, .int m_size, .int m_at2_14, .int m_end2_15, .int m_token2_22, .int m_whole2_23, .int m_nameSize2_20, .int m_fault2_17, .int m_place2_21, .int m_trouble, .ref a_letters, .int m_failed2_16, .int m_hasHouse, .ref a_r, .ref a_fresh, .ref a_st, .ref a_undone, .ref a_kept, .int m_undos, .int m_images, .ref a_from, .ref a_begin, .ref a_motor, .ref a_change, .ref a_startFrame, .ref a_changeFrame, .ref a_lostAt, .ref a_blackAt, .ref a_slips, .ref a_leftArc, .ref a_died, .ref a_arcs, .int m_bestSum, .int m_nearest, .int m_nearestTown, .ref a_there, .ref a_backAt, .ref a_sorted, .ref a_parts, .int m_seed1, .int m_darkNow])), (a_tape, .inl (g.2.2.1, 900, .inl d_tape)), (a_letters, .inl (g.2.2.1, 8, .inl d_letters2_19)), (a_fresh, .inl (g.2.2.1, 311, .inl d_fresh2_18))] rfl ?_
    have hk_32 : K16 d_fresh d_fresh2_18 := KN.k16 hq_29 (by have := iv_7; omega)
    have ek_33 : z_5 = d_fresh2_18 (6 : Int32).toNatClampNeg := ez_5.trans (hk_32 _ (by decide)).symm
    have hT_34 : TRI d_fresh2_18 := tri_kn hr_0 hp_d_fresh hq_29 (by have := iv_7; omega) (by have := iv_7; omega)
    refine k_aload_n X dX11_reelLine_32 1 rfl ?_
    refine k_get (ci := 11) X inlX11 rfl 16 (by decide) dX11_reelLine_33 mw171 0 rfl rfl ?_
    refine k_iload_n X dX11_reelLine_36 0 rfl ?_
    refine k_aload_n X dX11_reelLine_37 1 rfl ?_
    refine k_ldcwS (tx := "frames") X dX11_reelLine_38 (by decide +kernel) (fun sr_35 hsr_35 => ?_)
    refine k_iconst (v := 2) X dX11_reelLine_41 (by decide) ?_
    refine k_sipush (v := 2000) X dX11_reelLine_42 (by decide) ?_
    refine k_callVI (n := 3) (As := [.ref sr_35, .int 2, .int 2000]) (st := [.int z_11, .ref a_fresh]) X [(h0, .inr (11, [.int m_thrown, .ref a_tape, .int m_taped, .int m_size, .int m_at2_14, .int m_end2_15, .int m_token2_22, .int m_whole2_23, .int m_nameSize2_20, .int m_fault2_17, .int m_place2_21, .int m_trouble, .ref a_letters, .int m_failed2_16, .int m_hasHouse, .ref a_r, .ref a_fresh, .ref a_st, .ref a_undone, .ref a_kept, .int m_undos, .int m_images, .ref a_from, .ref a_begin, .ref a_motor, .ref a_change, .ref a_startFrame, .ref a_changeFrame, .ref a_lostAt, .ref a_blackAt, .ref a_slips, .ref a_leftArc, .ref a_died, .ref a_arcs, .int m_bestSum, .int m_nearest, .int m_nearestTown, .ref a_there, .ref a_backAt, .ref a_sorted, .ref a_parts, .int m_seed1, .int m_darkNow])), (a_tape, .inl (g.2.2.1, 900, .inl d_tape)), (a_letters, .inl (g.2.2.1, 8, .inl d_letters2_19))] [(a_fresh, .inl (g.2.2.1, 311, .inl d_fresh2_18))] [0, 1, 2] [3] (m_after l g h0 sr_35 2 2000 m_thrown a_tape m_taped m_size m_at2_14 m_end2_15 m_token2_22 m_whole2_23 m_nameSize2_20 m_fault2_17 m_place2_21 m_trouble a_letters m_failed2_16 m_hasHouse a_r a_fresh a_st a_undone a_kept m_undos m_images a_from a_begin a_motor a_change a_startFrame a_changeFrame a_lostAt a_blackAt a_slips a_leftArc a_died a_arcs m_bestSum m_nearest m_nearestTown a_there a_backAt a_sorted a_parts m_seed1 m_darkNow d_tape d_letters2_19 ("frames") (iv_w hv_m_size (by decide) (by decide)) (iv_w iv_25 (by decide) (by decide)) (iv_w iv_27 (by decide) (by decide)) (iv_w iv_26 (by decide) (by decide)) hsr_35 hk_31) dX11_reelLine_45 mw523 mw524 mw525 mw5 mw526 rfl 11 rfl rfl 0 _ rfl (by unfold yOk; decide) rfl (Nat.le_of_ble_eq_true rfl) (Nat.le_of_ble_eq_true rfl) (Nat.le_of_ble_eq_true rfl) (Nat.le_of_ble_eq_true rfl) (Nat.le_of_ble_eq_true rfl) rfl rfl (by decide) rfl (by decide) (by decide) ?_
    rintro r_45 w ⟨m_at2_36, m_end2_37, m_failed2_38, m_fault2_39, d_letters2_40, m_nameSize2_41, m_place2_42, m_token2_43, m_whole2_44, iv_46, iv_47, iv_48, hq_49, hq_50, hk_51, rfl⟩
    refine k_ws [(a_fresh, .inl (g.2.2.1, 311, .inl d_fresh2_18)), (h0, .inr (11, [.int m_thrown, .ref a_tape, .int m_taped, .int m_size, .int m_at2_36, .int m_end2_37, .int m_token2_43, .int m_whole2_44, .int m_nameSize2_41, .int m_fault2_39, .int m_place2_42, .int m_trouble, .ref a_letters, .int m_failed2_38, .int m_hasHouse, .ref a_r, .ref a_fresh, .ref a_st, .ref a_undone, .ref a_kept, .int m_undos, .int m_images, .ref a_from, .ref a_begin, .ref a_motor, .ref a_change, .ref a_startFrame, .ref a_changeFrame, .ref a_lostAt, .ref a_blackAt, .ref a_slips, .ref a_leftArc, .ref a_died, .ref a_arcs, .int m_bestSum, .int m_nearest, .int m_nearestTown, .ref a_there, .ref a_backAt, .ref a_sorted, .ref a_parts, .int m_seed1, .int m_darkNow])), (a_tape, .inl (g.2.2.1, 900, .inl d_tape)), (a_letters, .inl (g.2.2.1, 8, .inl d_letters2_40))] rfl ?_
    have e_52 : (2 : Int32).toInt = 2 := by decide
    have e_53 : (2000 : Int32).toInt = 2000 := by decide
    have iv_54 : IV r_45 2 2000 := by have := (show IV 2 2 2 from (by decide)); have := (show IV 2000 2000 2000 from (by decide)); rw [IV]; omega
    refine k_iast [(a_fresh, .inl (g.2.2.1, 311, .inl (upd d_fresh2_18 (z_11 : Int32).toNatClampNeg r_45))), (h0, .inr (11, [.int m_thrown, .ref a_tape, .int m_taped, .int m_size, .int m_at2_36, .int m_end2_37, .int m_token2_43, .int m_whole2_44, .int m_nameSize2_41, .int m_fault2_39, .int m_place2_42, .int m_trouble, .ref a_letters, .int m_failed2_38, .int m_hasHouse, .ref a_r, .ref a_fresh, .ref a_st, .ref a_undone, .ref a_kept, .int m_undos, .int m_images, .ref a_from, .ref a_begin, .ref a_motor, .ref a_change, .ref a_startFrame, .ref a_changeFrame, .ref a_lostAt, .ref a_blackAt, .ref a_slips, .ref a_leftArc, .ref a_died, .ref a_arcs, .int m_bestSum, .int m_nearest, .int m_nearestTown, .ref a_there, .ref a_backAt, .ref a_sorted, .ref a_parts, .int m_seed1, .int m_darkNow])), (a_tape, .inl (g.2.2.1, 900, .inl d_tape)), (a_letters, .inl (g.2.2.1, 8, .inl d_letters2_40))] X dX11_reelLine_48 0 rfl (iv_in iv_13 (by decide) (by decide)) rfl ?_
    have i_57 : z_11.toInt = 16 + 3 * z_5.toInt := by omega
    refine (fun hg : ∀ fa_55 : Nat → Int32, fa_55 = upd d_fresh2_18 (z_11 : Int32).toNatClampNeg r_45 → RInv fa_55 → K16 d_fresh2_18 fa_55 → Wk p l e _ s m args below meth c _ A g _ _ _ [(a_fresh, .inl (g.2.2.1, 311, .inl fa_55)), (h0, .inr (11, [.int m_thrown, .ref a_tape, .int m_taped, .int m_size, .int m_at2_36, .int m_end2_37, .int m_token2_43, .int m_whole2_44, .int m_nameSize2_41, .int m_fault2_39, .int m_place2_42, .int m_trouble, .ref a_letters, .int m_failed2_38, .int m_hasHouse, .ref a_r, .ref a_fresh, .ref a_st, .ref a_undone, .ref a_kept, .int m_undos, .int m_images, .ref a_from, .ref a_begin, .ref a_motor, .ref a_change, .ref a_startFrame, .ref a_changeFrame, .ref a_lostAt, .ref a_blackAt, .ref a_slips, .ref a_leftArc, .ref a_died, .ref a_arcs, .int m_bestSum, .int m_nearest, .int m_nearestTown, .ref a_there, .ref a_backAt, .ref a_sorted, .ref a_parts, .int m_seed1, .int m_darkNow])), (a_tape, .inl (g.2.2.1, 900, .inl d_tape)), (a_letters, .inl (g.2.2.1, 8, .inl d_letters2_40))] _ _ _ => hg _ rfl (w_fr_16_3 hp_28 i_57 (iv_w iv_7 (by decide) (by decide))) (k16_u (z := z_11) (by have := iv_13; omega))) (fun fa_55 eq_59 hR_56 hk_58 => ?_)
    have ek_60 : z_5 = fa_55 (6 : Int32).toNatClampNeg := ek_33.trans (hk_58 _ (by decide)).symm
    have hT_61 : TRI fa_55 := by have := iv_13; exact tri_z (z := z_11) eq_59 hT_34 hp_28 (by omega) (by omega) (by omega) (by omega) (by omega)
    refine k_aload_n X dX11_reelLine_49 1 rfl ?_
    refine k_get (ci := 11) X inlX11 rfl 16 (by decide) dX11_reelLine_50 mw171 1 rfl rfl ?_
    refine k_iload_n X dX11_reelLine_53 0 rfl ?_
    refine k_iconst (v := 1) X dX11_reelLine_54 (by decide) ?_
    refine k_iadd X dX11_reelLine_55 ?_
    refine k_nm (fun z_62 ez_62 => ?_)
    have i_63 : z_62.toInt = z_11.toInt + 1 := in_add ez_62 iv_13 (show IV 1 1 1 from (by decide)) (by decide) (by decide)
    have iv_64 : IV z_62 17 38 := by have := iv_13; have := (show IV 1 1 1 from (by decide)); rw [IV, i_63]; omega
    refine k_aload_n X dX11_reelLine_56 1 rfl ?_
    refine k_ldcwS (tx := "first") X dX11_reelLine_57 (by decide +kernel) (fun sr_65 hsr_65 => ?_)
    refine k_iconst (v := 0) X dX11_reelLine_60 (by decide) ?_
    refine k_aload_n X dX11_reelLine_61 1 rfl ?_
    refine k_get (ci := 11) X inlX11 rfl 16 (by decide) dX11_reelLine_62 mw171 1 rfl rfl ?_
    refine k_iload_n X dX11_reelLine_65 0 rfl ?_
    refine k_iald X dX11_reelLine_66 0 rfl (iv_in iv_13 (by decide) (by decide)) ?_
    refine k_nm (fun z_66 ez_66 => ?_)
    refine k_iconst (v := 1) X dX11_reelLine_67 (by decide) ?_
    refine k_isub X dX11_reelLine_68 ?_
    refine k_nm (fun z_67 ez_67 => ?_)
    refine k_callVI (n := 3) (As := [.ref sr_65, .int 0, .int z_67]) (st := [.int z_62, .ref a_fresh]) X [(h0, .inr (11, [.int m_thrown, .ref a_tape, .int m_taped, .int m_size, .int m_at2_36, .int m_end2_37, .int m_token2_43, .int m_whole2_44, .int m_nameSize2_41, .int m_fault2_39, .int m_place2_42, .int m_trouble, .ref a_letters, .int m_failed2_38, .int m_hasHouse, .ref a_r, .ref a_fresh, .ref a_st, .ref a_undone, .ref a_kept, .int m_undos, .int m_images, .ref a_from, .ref a_begin, .ref a_motor, .ref a_change, .ref a_startFrame, .ref a_changeFrame, .ref a_lostAt, .ref a_blackAt, .ref a_slips, .ref a_leftArc, .ref a_died, .ref a_arcs, .int m_bestSum, .int m_nearest, .int m_nearestTown, .ref a_there, .ref a_backAt, .ref a_sorted, .ref a_parts, .int m_seed1, .int m_darkNow])), (a_tape, .inl (g.2.2.1, 900, .inl d_tape)), (a_letters, .inl (g.2.2.1, 8, .inl d_letters2_40))] [(a_fresh, .inl (g.2.2.1, 311, .inl fa_55))] [1, 2, 3] [0] (m_after l g h0 sr_65 0 z_67 m_thrown a_tape m_taped m_size m_at2_36 m_end2_37 m_token2_43 m_whole2_44 m_nameSize2_41 m_fault2_39 m_place2_42 m_trouble a_letters m_failed2_38 m_hasHouse a_r a_fresh a_st a_undone a_kept m_undos m_images a_from a_begin a_motor a_change a_startFrame a_changeFrame a_lostAt a_blackAt a_slips a_leftArc a_died a_arcs m_bestSum m_nearest m_nearestTown a_there a_backAt a_sorted a_parts m_seed1 m_darkNow d_tape d_letters2_40 ("first") (iv_w hv_m_size (by decide) (by decide)) (iv_w iv_46 (by decide) (by decide)) (iv_w iv_48 (by decide) (by decide)) (iv_w iv_47 (by decide) (by decide)) hsr_65 hk_51) dX11_reelLine_69 mw523 mw524 mw525 mw5 mw526 rfl 11 rfl rfl 0 _ rfl (by unfold yOk; decide) rfl (Nat.le_of_ble_eq_true rfl) (Nat.le_of_ble_eq_true rfl) (Nat.le_of_ble_eq_true rfl) (Nat.le_of_ble_eq_true rfl) (Nat.le_of_ble_eq_true rfl) rfl rfl (by decide) rfl (by decide) (by decide) ?_
    rintro r_78 w ⟨m_at2_69, m_end2_70, m_failed2_71, m_fault2_72, d_letters2_73, m_nameSize2_74, m_place2_75, m_token2_76, m_whole2_77, iv_79, iv_80, iv_81, hq_82, hq_83, hk_84, rfl⟩
    refine k_ws [(a_fresh, .inl (g.2.2.1, 311, .inl fa_55)), (h0, .inr (11, [.int m_thrown, .ref a_tape, .int m_taped, .int m_size, .int m_at2_69, .int m_end2_70, .int m_token2_76, .int m_whole2_77, .int m_nameSize2_74, .int m_fault2_72, .int m_place2_75, .int m_trouble, .ref a_letters, .int m_failed2_71, .int m_hasHouse, .ref a_r, .ref a_fresh, .ref a_st, .ref a_undone, .ref a_kept, .int m_undos, .int m_images, .ref a_from, .ref a_begin, .ref a_motor, .ref a_change, .ref a_startFrame, .ref a_changeFrame, .ref a_lostAt, .ref a_blackAt, .ref a_slips, .ref a_leftArc, .ref a_died, .ref a_arcs, .int m_bestSum, .int m_nearest, .int m_nearestTown, .ref a_there, .ref a_backAt, .ref a_sorted, .ref a_parts, .int m_seed1, .int m_darkNow])), (a_tape, .inl (g.2.2.1, 900, .inl d_tape)), (a_letters, .inl (g.2.2.1, 8, .inl d_letters2_73))] rfl ?_
    have e_85 : (0 : Int32).toInt = 0 := by decide
    have iv_86 : IV r_78 0 2147483647 := by have := (show IV 0 0 0 from (by decide)); have := (iv_any z_67); rw [IV]; omega
    refine k_iast [(a_fresh, .inl (g.2.2.1, 311, .inl (upd fa_55 (z_62 : Int32).toNatClampNeg r_78))), (h0, .inr (11, [.int m_thrown, .ref a_tape, .int m_taped, .int m_size, .int m_at2_69, .int m_end2_70, .int m_token2_76, .int m_whole2_77, .int m_nameSize2_74, .int m_fault2_72, .int m_place2_75, .int m_trouble, .ref a_letters, .int m_failed2_71, .int m_hasHouse, .ref a_r, .ref a_fresh, .ref a_st, .ref a_undone, .ref a_kept, .int m_undos, .int m_images, .ref a_from, .ref a_begin, .ref a_motor, .ref a_change, .ref a_startFrame, .ref a_changeFrame, .ref a_lostAt, .ref a_blackAt, .ref a_slips, .ref a_leftArc, .ref a_died, .ref a_arcs, .int m_bestSum, .int m_nearest, .int m_nearestTown, .ref a_there, .ref a_backAt, .ref a_sorted, .ref a_parts, .int m_seed1, .int m_darkNow])), (a_tape, .inl (g.2.2.1, 900, .inl d_tape)), (a_letters, .inl (g.2.2.1, 8, .inl d_letters2_73))] X dX11_reelLine_72 0 rfl (iv_in iv_64 (by decide) (by decide)) rfl ?_
    have i_89 : z_62.toInt = 17 + 3 * z_5.toInt := by omega
    refine (fun hg : ∀ fa_87 : Nat → Int32, fa_87 = upd fa_55 (z_62 : Int32).toNatClampNeg r_78 → RInv fa_87 → K16 fa_55 fa_87 → Wk p l e _ s m args below meth c _ A g _ _ _ [(a_fresh, .inl (g.2.2.1, 311, .inl fa_87)), (h0, .inr (11, [.int m_thrown, .ref a_tape, .int m_taped, .int m_size, .int m_at2_69, .int m_end2_70, .int m_token2_76, .int m_whole2_77, .int m_nameSize2_74, .int m_fault2_72, .int m_place2_75, .int m_trouble, .ref a_letters, .int m_failed2_71, .int m_hasHouse, .ref a_r, .ref a_fresh, .ref a_st, .ref a_undone, .ref a_kept, .int m_undos, .int m_images, .ref a_from, .ref a_begin, .ref a_motor, .ref a_change, .ref a_startFrame, .ref a_changeFrame, .ref a_lostAt, .ref a_blackAt, .ref a_slips, .ref a_leftArc, .ref a_died, .ref a_arcs, .int m_bestSum, .int m_nearest, .int m_nearestTown, .ref a_there, .ref a_backAt, .ref a_sorted, .ref a_parts, .int m_seed1, .int m_darkNow])), (a_tape, .inl (g.2.2.1, 900, .inl d_tape)), (a_letters, .inl (g.2.2.1, 8, .inl d_letters2_73))] _ _ _ => hg _ rfl (w_fr_17_3 hR_56 i_89 (iv_w iv_7 (by decide) (by decide))) (k16_u (z := z_62) (by have := iv_64; omega))) (fun fa_87 eq_91 hR_88 hk_90 => ?_)
    have ek_92 : z_5 = fa_87 (6 : Int32).toNatClampNeg := ek_60.trans (hk_90 _ (by decide)).symm
    have hT_93 : TRI fa_87 := by have := iv_64; exact tri_z (z := z_62) eq_91 hT_61 hR_56 (by omega) (by omega) (by omega) (by omega) (by omega)
    refine k_aload_n X dX11_reelLine_73 1 rfl ?_
    refine k_get (ci := 11) X inlX11 rfl 16 (by decide) dX11_reelLine_74 mw171 1 rfl rfl ?_
    refine k_iload_n X dX11_reelLine_77 0 rfl ?_
    refine k_iconst (v := 2) X dX11_reelLine_78 (by decide) ?_
    refine k_iadd X dX11_reelLine_79 ?_
    refine k_nm (fun z_94 ez_94 => ?_)
    have i_95 : z_94.toInt = z_11.toInt + 2 := in_add ez_94 iv_13 (show IV 2 2 2 from (by decide)) (by decide) (by decide)
    have iv_96 : IV z_94 18 39 := by have := iv_13; have := (show IV 2 2 2 from (by decide)); rw [IV, i_95]; omega
    refine k_aload_n X dX11_reelLine_80 1 rfl ?_
    refine k_ldcwS (tx := "whole") X dX11_reelLine_81 (by decide +kernel) (fun sr_97 hsr_97 => ?_)
    refine k_aload_n X dX11_reelLine_84 1 rfl ?_
    refine k_get (ci := 11) X inlX11 rfl 16 (by decide) dX11_reelLine_85 mw171 1 rfl rfl ?_
    refine k_iload_n X dX11_reelLine_88 0 rfl ?_
    refine k_iald X dX11_reelLine_89 0 rfl (iv_in iv_13 (by decide) (by decide)) ?_
    refine k_nm (fun z_98 ez_98 => ?_)
    refine k_sipush (v := 2000) X dX11_reelLine_90 (by decide) ?_
    refine k_callVI (n := 3) (As := [.ref sr_97, .int z_98, .int 2000]) (st := [.int z_94, .ref a_fresh]) X [(h0, .inr (11, [.int m_thrown, .ref a_tape, .int m_taped, .int m_size, .int m_at2_69, .int m_end2_70, .int m_token2_76, .int m_whole2_77, .int m_nameSize2_74, .int m_fault2_72, .int m_place2_75, .int m_trouble, .ref a_letters, .int m_failed2_71, .int m_hasHouse, .ref a_r, .ref a_fresh, .ref a_st, .ref a_undone, .ref a_kept, .int m_undos, .int m_images, .ref a_from, .ref a_begin, .ref a_motor, .ref a_change, .ref a_startFrame, .ref a_changeFrame, .ref a_lostAt, .ref a_blackAt, .ref a_slips, .ref a_leftArc, .ref a_died, .ref a_arcs, .int m_bestSum, .int m_nearest, .int m_nearestTown, .ref a_there, .ref a_backAt, .ref a_sorted, .ref a_parts, .int m_seed1, .int m_darkNow])), (a_tape, .inl (g.2.2.1, 900, .inl d_tape)), (a_letters, .inl (g.2.2.1, 8, .inl d_letters2_73))] [(a_fresh, .inl (g.2.2.1, 311, .inl fa_87))] [1, 2, 3] [0] (m_after l g h0 sr_97 z_98 2000 m_thrown a_tape m_taped m_size m_at2_69 m_end2_70 m_token2_76 m_whole2_77 m_nameSize2_74 m_fault2_72 m_place2_75 m_trouble a_letters m_failed2_71 m_hasHouse a_r a_fresh a_st a_undone a_kept m_undos m_images a_from a_begin a_motor a_change a_startFrame a_changeFrame a_lostAt a_blackAt a_slips a_leftArc a_died a_arcs m_bestSum m_nearest m_nearestTown a_there a_backAt a_sorted a_parts m_seed1 m_darkNow d_tape d_letters2_73 ("whole") (iv_w hv_m_size (by decide) (by decide)) (iv_w iv_79 (by decide) (by decide)) (iv_w iv_81 (by decide) (by decide)) (iv_w iv_80 (by decide) (by decide)) hsr_97 hk_84) dX11_reelLine_93 mw523 mw524 mw525 mw5 mw526 rfl 11 rfl rfl 0 _ rfl (by unfold yOk; decide) rfl (Nat.le_of_ble_eq_true rfl) (Nat.le_of_ble_eq_true rfl) (Nat.le_of_ble_eq_true rfl) (Nat.le_of_ble_eq_true rfl) (Nat.le_of_ble_eq_true rfl) rfl rfl (by decide) rfl (by decide) (by decide) ?_
    rintro r_108 w ⟨m_at2_99, m_end2_100, m_failed2_101, m_fault2_102, d_letters2_103, m_nameSize2_104, m_place2_105, m_token2_106, m_whole2_107, iv_109, iv_110, iv_111, hq_112, hq_113, hk_114, rfl⟩
    refine k_ws [(a_fresh, .inl (g.2.2.1, 311, .inl fa_87)), (h0, .inr (11, [.int m_thrown, .ref a_tape, .int m_taped, .int m_size, .int m_at2_99, .int m_end2_100, .int m_token2_106, .int m_whole2_107, .int m_nameSize2_104, .int m_fault2_102, .int m_place2_105, .int m_trouble, .ref a_letters, .int m_failed2_101, .int m_hasHouse, .ref a_r, .ref a_fresh, .ref a_st, .ref a_undone, .ref a_kept, .int m_undos, .int m_images, .ref a_from, .ref a_begin, .ref a_motor, .ref a_change, .ref a_startFrame, .ref a_changeFrame, .ref a_lostAt, .ref a_blackAt, .ref a_slips, .ref a_leftArc, .ref a_died, .ref a_arcs, .int m_bestSum, .int m_nearest, .int m_nearestTown, .ref a_there, .ref a_backAt, .ref a_sorted, .ref a_parts, .int m_seed1, .int m_darkNow])), (a_tape, .inl (g.2.2.1, 900, .inl d_tape)), (a_letters, .inl (g.2.2.1, 8, .inl d_letters2_103))] rfl ?_
    have e_115 : (2000 : Int32).toInt = 2000 := by decide
    refine k_iast [(a_fresh, .inl (g.2.2.1, 311, .inl (upd fa_87 (z_94 : Int32).toNatClampNeg r_108))), (h0, .inr (11, [.int m_thrown, .ref a_tape, .int m_taped, .int m_size, .int m_at2_99, .int m_end2_100, .int m_token2_106, .int m_whole2_107, .int m_nameSize2_104, .int m_fault2_102, .int m_place2_105, .int m_trouble, .ref a_letters, .int m_failed2_101, .int m_hasHouse, .ref a_r, .ref a_fresh, .ref a_st, .ref a_undone, .ref a_kept, .int m_undos, .int m_images, .ref a_from, .ref a_begin, .ref a_motor, .ref a_change, .ref a_startFrame, .ref a_changeFrame, .ref a_lostAt, .ref a_blackAt, .ref a_slips, .ref a_leftArc, .ref a_died, .ref a_arcs, .int m_bestSum, .int m_nearest, .int m_nearestTown, .ref a_there, .ref a_backAt, .ref a_sorted, .ref a_parts, .int m_seed1, .int m_darkNow])), (a_tape, .inl (g.2.2.1, 900, .inl d_tape)), (a_letters, .inl (g.2.2.1, 8, .inl d_letters2_103))] X dX11_reelLine_96 0 rfl (iv_in iv_96 (by decide) (by decide)) rfl ?_
    have i_118 : z_94.toInt = 18 + 3 * z_5.toInt := by omega
    refine (fun hg : ∀ fa_116 : Nat → Int32, fa_116 = upd fa_87 (z_94 : Int32).toNatClampNeg r_108 → RInv fa_116 → K16 fa_87 fa_116 → Wk p l e _ s m args below meth c _ A g _ _ _ [(a_fresh, .inl (g.2.2.1, 311, .inl fa_116)), (h0, .inr (11, [.int m_thrown, .ref a_tape, .int m_taped, .int m_size, .int m_at2_99, .int m_end2_100, .int m_token2_106, .int m_whole2_107, .int m_nameSize2_104, .int m_fault2_102, .int m_place2_105, .int m_trouble, .ref a_letters, .int m_failed2_101, .int m_hasHouse, .ref a_r, .ref a_fresh, .ref a_st, .ref a_undone, .ref a_kept, .int m_undos, .int m_images, .ref a_from, .ref a_begin, .ref a_motor, .ref a_change, .ref a_startFrame, .ref a_changeFrame, .ref a_lostAt, .ref a_blackAt, .ref a_slips, .ref a_leftArc, .ref a_died, .ref a_arcs, .int m_bestSum, .int m_nearest, .int m_nearestTown, .ref a_there, .ref a_backAt, .ref a_sorted, .ref a_parts, .int m_seed1, .int m_darkNow])), (a_tape, .inl (g.2.2.1, 900, .inl d_tape)), (a_letters, .inl (g.2.2.1, 8, .inl d_letters2_103))] _ _ _ => hg _ rfl (w_fr_18_3 hR_88 i_118 (iv_w iv_7 (by decide) (by decide))) (k16_u (z := z_94) (by have := iv_96; omega))) (fun fa_116 eq_120 hR_117 hk_119 => ?_)
    have ek_121 : z_5 = fa_116 (6 : Int32).toNatClampNeg := ek_92.trans (hk_119 _ (by decide)).symm
    have hT_122 : TRI fa_116 := by have := iv_96; exact tri_z (z := z_94) eq_120 hT_93 hR_88 (by omega) (by omega) (by omega) (by omega) (by omega)
    refine k_aload_n X dX11_reelLine_97 1 rfl ?_
    refine k_get (ci := 11) X inlX11 rfl 13 (by decide) dX11_reelLine_98 mw469 1 rfl rfl ?_
    refine k_if_ne 115 X dX11_reelLine_101 (by decide) (fun h_123 => ?_) (fun h_123 => ?_)
    · skip
      have iv_124 : IV m_failed2_101 1 1 := iv_neL h_123 iv_110 (show IV 0 0 0 from (by decide)) (by decide)
      exact k_vret X hr dX11_reelLine_115 (Nat.le_of_ble_eq_true rfl) (Nat.le_of_ble_eq_true rfl) [1, 2, 3, 0] (by decide) rfl rfl ⟨m_at2_99, m_end2_100, m_failed2_101, m_fault2_102, fa_116, d_letters2_103, m_nameSize2_104, m_place2_105, m_token2_106, m_whole2_107, (iv_w iv_109 (by decide) (by decide)), (iv_w iv_124 (by decide) (by decide)), (iv_w iv_111 (by decide) (by decide)), hR_117, (by omega), hT_122, hk_114, rfl⟩
    · skip
      have iv_125 : IV m_failed2_101 0 0 := iv_meet iv_110 (iv_e h_123 (show IV 0 0 0 from (by decide))) (by decide) (by decide)
      refine k_aload_n X dX11_reelLine_104 1 rfl ?_
      refine k_get (ci := 11) X inlX11 rfl 16 (by decide) dX11_reelLine_105 mw171 1 rfl rfl ?_
      refine k_bipush (v := 6) X dX11_reelLine_108 (by decide) ?_
      refine k_dup2 X dX11_reelLine_110 rfl rfl ?_
      refine k_iald X dX11_reelLine_111 0 rfl (by unfold vp_in; decide) ?_
      refine k_to z_5 ek_121.symm ?_
      refine k_iconst (v := 1) X dX11_reelLine_112 (by decide) ?_
      refine k_iadd X dX11_reelLine_113 ?_
      refine k_nm (fun z_126 ez_126 => ?_)
      have i_127 : z_126.toInt = z_5.toInt + 1 := in_add ez_126 iv_7 (show IV 1 1 1 from (by decide)) (by decide) (by decide)
      have iv_128 : IV z_126 1 8 := by have := iv_7; have := (show IV 1 1 1 from (by decide)); rw [IV, i_127]; omega
      refine k_iast [(a_fresh, .inl (g.2.2.1, 311, .inl (upd fa_116 (6 : Int32).toNatClampNeg z_126))), (h0, .inr (11, [.int m_thrown, .ref a_tape, .int m_taped, .int m_size, .int m_at2_99, .int m_end2_100, .int m_token2_106, .int m_whole2_107, .int m_nameSize2_104, .int m_fault2_102, .int m_place2_105, .int m_trouble, .ref a_letters, .int m_failed2_101, .int m_hasHouse, .ref a_r, .ref a_fresh, .ref a_st, .ref a_undone, .ref a_kept, .int m_undos, .int m_images, .ref a_from, .ref a_begin, .ref a_motor, .ref a_change, .ref a_startFrame, .ref a_changeFrame, .ref a_lostAt, .ref a_blackAt, .ref a_slips, .ref a_leftArc, .ref a_died, .ref a_arcs, .int m_bestSum, .int m_nearest, .int m_nearestTown, .ref a_there, .ref a_backAt, .ref a_sorted, .ref a_parts, .int m_seed1, .int m_darkNow])), (a_tape, .inl (g.2.2.1, 900, .inl d_tape)), (a_letters, .inl (g.2.2.1, 8, .inl d_letters2_103))] X dX11_reelLine_114 0 rfl (by unfold vp_in; decide) rfl ?_
      refine (fun hg : ∀ fa_129 : Nat → Int32, fa_129 = upd fa_116 (6 : Int32).toNatClampNeg z_126 → RInv fa_129 → Wk p l e _ s m args below meth c _ A g _ _ _ [(a_fresh, .inl (g.2.2.1, 311, .inl fa_129)), (h0, .inr (11, [.int m_thrown, .ref a_tape, .int m_taped, .int m_size, .int m_at2_99, .int m_end2_100, .int m_token2_106, .int m_whole2_107, .int m_nameSize2_104, .int m_fault2_102, .int m_place2_105, .int m_trouble, .ref a_letters, .int m_failed2_101, .int m_hasHouse, .ref a_r, .ref a_fresh, .ref a_st, .ref a_undone, .ref a_kept, .int m_undos, .int m_images, .ref a_from, .ref a_begin, .ref a_motor, .ref a_change, .ref a_startFrame, .ref a_changeFrame, .ref a_lostAt, .ref a_blackAt, .ref a_slips, .ref a_leftArc, .ref a_died, .ref a_arcs, .int m_bestSum, .int m_nearest, .int m_nearestTown, .ref a_there, .ref a_backAt, .ref a_sorted, .ref a_parts, .int m_seed1, .int m_darkNow])), (a_tape, .inl (g.2.2.1, 900, .inl d_tape)), (a_letters, .inl (g.2.2.1, 8, .inl d_letters2_103))] _ _ _ => hg _ rfl (w_rb_6 hR_117 (iv_w iv_128 (by decide) (by decide)))) (fun fa_129 eq_132 hR_130 => ?_)
      have hT_133 : TRI fa_129 := by rw [eq_132]; exact tri_n (z := 6) hT_122 hR_117 (by decide) (by decide) (by decide) (by decide)
      exact k_vret X hr dX11_reelLine_115 (Nat.le_of_ble_eq_true rfl) (Nat.le_of_ble_eq_true rfl) [1, 2, 3, 0] (by decide) rfl rfl ⟨m_at2_99, m_end2_100, m_failed2_101, m_fault2_102, fa_129, d_letters2_103, m_nameSize2_104, m_place2_105, m_token2_106, m_whole2_107, (iv_w iv_109 (by decide) (by decide)), (iv_w iv_125 (by decide) (by decide)), (iv_w iv_111 (by decide) (by decide)), hR_130, (by omega), hT_133, hk_114, rfl⟩
  · skip
    have iv_134 : IV m_failed 1 1 := iv_neL h_1 hv_m_failed (show IV 0 0 0 from (by decide)) (by decide)
    exact k_vret X hr dX11_reelLine_7 (Nat.le_of_ble_eq_true rfl) (Nat.le_of_ble_eq_true rfl) [0, 1, 2, 3] (by decide) rfl rfl ⟨m_at, m_end, m_failed, m_fault, d_fresh, d_letters, m_nameSize, m_place, m_token, m_whole, (iv_w hv_m_end (by decide) (by decide)), (iv_w iv_134 (by decide) (by decide)), (iv_w hv_m_nameSize (by decide) (by decide)), hp_d_fresh, (by omega), hr_0, hc_1, rfl⟩

theorem dX11_townLine_0 : decode cX11_townLine 0 = .ok (.aload_n 0, 1) := by decide +kernel
theorem dX11_townLine_1 : decode cX11_townLine 1 = .ok (.getfield 121, 3) := by decide +kernel
theorem dX11_townLine_4 : decode cX11_townLine 4 = .ok (.ifCond .eq 4, 3) := by decide +kernel
theorem dX11_townLine_7 : decode cX11_townLine 7 = .ok (.return_, 1) := by decide +kernel
theorem dX11_townLine_8 : decode cX11_townLine 8 = .ok (.aload_n 0, 1) := by decide +kernel
theorem dX11_townLine_9 : decode cX11_townLine 9 = .ok (.bipush 8, 2) := by decide +kernel
theorem dX11_townLine_11 : decode cX11_townLine 11 = .ok (.aload_n 0, 1) := by decide +kernel
theorem dX11_townLine_12 : decode cX11_townLine 12 = .ok (.getfield 23, 3) := by decide +kernel
theorem dX11_townLine_15 : decode cX11_townLine 15 = .ok (.bipush 7, 2) := by decide +kernel
theorem dX11_townLine_17 : decode cX11_townLine 17 = .ok (.iaload, 1) := by decide +kernel
theorem dX11_townLine_18 : decode cX11_townLine 18 = .ok (.iadd, 1) := by decide +kernel
theorem dX11_townLine_19 : decode cX11_townLine 19 = .ok (.invokevirtual 277, 3) := by decide +kernel
theorem dX11_townLine_22 : decode cX11_townLine 22 = .ok (.aload_n 0, 1) := by decide +kernel
theorem dX11_townLine_23 : decode cX11_townLine 23 = .ok (.getfield 23, 3) := by decide +kernel
theorem dX11_townLine_26 : decode cX11_townLine 26 = .ok (.bipush 40, 2) := by decide +kernel
theorem dX11_townLine_28 : decode cX11_townLine 28 = .ok (.aload_n 0, 1) := by decide +kernel
theorem dX11_townLine_29 : decode cX11_townLine 29 = .ok (.getfield 23, 3) := by decide +kernel
theorem dX11_townLine_32 : decode cX11_townLine 32 = .ok (.bipush 7, 2) := by decide +kernel
theorem dX11_townLine_34 : decode cX11_townLine 34 = .ok (.iaload, 1) := by decide +kernel
theorem dX11_townLine_35 : decode cX11_townLine 35 = .ok (.iadd, 1) := by decide +kernel
theorem dX11_townLine_36 : decode cX11_townLine 36 = .ok (.aload_n 0, 1) := by decide +kernel
theorem dX11_townLine_37 : decode cX11_townLine 37 = .ok (.ldc_w 286, 3) := by decide +kernel
theorem dX11_townLine_40 : decode cX11_townLine 40 = .ok (.iconst 1, 1) := by decide +kernel
theorem dX11_townLine_41 : decode cX11_townLine 41 = .ok (.bipush 9, 2) := by decide +kernel
theorem dX11_townLine_43 : decode cX11_townLine 43 = .ok (.invokevirtual 264, 3) := by decide +kernel
theorem dX11_townLine_46 : decode cX11_townLine 46 = .ok (.iastore, 1) := by decide +kernel
theorem dX11_townLine_47 : decode cX11_townLine 47 = .ok (.aload_n 0, 1) := by decide +kernel
theorem dX11_townLine_48 : decode cX11_townLine 48 = .ok (.getfield 121, 3) := by decide +kernel
theorem dX11_townLine_51 : decode cX11_townLine 51 = .ok (.ifCond .ne 14, 3) := by decide +kernel
theorem dX11_townLine_54 : decode cX11_townLine 54 = .ok (.aload_n 0, 1) := by decide +kernel
theorem dX11_townLine_55 : decode cX11_townLine 55 = .ok (.getfield 23, 3) := by decide +kernel
theorem dX11_townLine_58 : decode cX11_townLine 58 = .ok (.bipush 7, 2) := by decide +kernel
theorem dX11_townLine_60 : decode cX11_townLine 60 = .ok (.dup2, 1) := by decide +kernel
theorem dX11_townLine_61 : decode cX11_townLine 61 = .ok (.iaload, 1) := by decide +kernel
theorem dX11_townLine_62 : decode cX11_townLine 62 = .ok (.iconst 1, 1) := by decide +kernel
theorem dX11_townLine_63 : decode cX11_townLine 63 = .ok (.iadd, 1) := by decide +kernel
theorem dX11_townLine_64 : decode cX11_townLine 64 = .ok (.iastore, 1) := by decide +kernel
theorem dX11_townLine_65 : decode cX11_townLine 65 = .ok (.return_, 1) := by decide +kernel
set_option maxHeartbeats 4000000 in
set_option maxRecDepth 100000 in
theorem m_townLine (l : Launch) (g : Gx) (h0 : Nat) (m_thrown : Int32) (a_tape : Nat) (m_taped : Int32) (m_size : Int32) (m_at : Int32) (m_end : Int32) (m_token : Int32) (m_whole : Int32) (m_nameSize : Int32) (m_fault : Int32) (m_place : Int32) (m_trouble : Int32) (a_letters : Nat) (m_failed : Int32) (m_hasHouse : Int32) (a_r : Nat) (a_fresh : Nat) (a_st : Nat) (a_undone : Nat) (a_kept : Nat) (m_undos : Int32) (m_images : Int32) (a_from : Nat) (a_begin : Nat) (a_motor : Nat) (a_change : Nat) (a_startFrame : Nat) (a_changeFrame : Nat) (a_lostAt : Nat) (a_blackAt : Nat) (a_slips : Nat) (a_leftArc : Nat) (a_died : Nat) (a_arcs : Nat) (m_bestSum : Int32) (m_nearest : Int32) (m_nearestTown : Int32) (a_there : Nat) (a_backAt : Nat) (a_sorted : Nat) (a_parts : Nat) (m_seed1 : Int32) (m_darkNow : Int32) (d_tape : Nat → Int32) (d_letters : Nat → Int32) (d_fresh : Nat → Int32) (hv_m_size : IV m_size 0 900) (hv_m_end : IV m_end 0 900) (hv_m_nameSize : IV m_nameSize 0 900) (hv_m_failed : IV m_failed 0 1) (hp_d_fresh : RInv d_fresh) (hr_0 : TRI d_fresh) (hc_0 : m_failed = 1 ∨ ((d_fresh 7).toInt ≤ 3)) (hc_1 : m_token = 2 → IV m_nameSize 0 8) : cV l g yX11_townLine cX11_townLine 1 8 173 0 0 [.ref h0] [(h0, .inr (11, [.int m_thrown, .ref a_tape, .int m_taped, .int m_size, .int m_at, .int m_end, .int m_token, .int m_whole, .int m_nameSize, .int m_fault, .int m_place, .int m_trouble, .ref a_letters, .int m_failed, .int m_hasHouse, .ref a_r, .ref a_fresh, .ref a_st, .ref a_undone, .ref a_kept, .int m_undos, .int m_images, .ref a_from, .ref a_begin, .ref a_motor, .ref a_change, .ref a_startFrame, .ref a_changeFrame, .ref a_lostAt, .ref a_blackAt, .ref a_slips, .ref a_leftArc, .ref a_died, .ref a_arcs, .int m_bestSum, .int m_nearest, .int m_nearestTown, .ref a_there, .ref a_backAt, .ref a_sorted, .ref a_parts, .int m_seed1, .int m_darkNow])), (a_tape, .inl (g.2.2.1, 900, .inl d_tape)), (a_letters, .inl (g.2.2.1, 8, .inl d_letters)), (a_fresh, .inl (g.2.2.1, 311, .inl d_fresh))] (fun w => ∃ (m_at2 : Int32) (m_end2 : Int32) (m_failed2 : Int32) (m_fault2 : Int32) (d_fresh2 : Nat → Int32) (d_letters2 : Nat → Int32) (m_nameSize2 : Int32) (m_place2 : Int32) (m_token2 : Int32) (m_whole2 : Int32), IV m_end2 0 900 ∧ IV m_failed2 0 1 ∧ IV m_nameSize2 0 900 ∧ RInv d_fresh2 ∧ (m_end.toInt ≤ m_end2.toInt) ∧ (TRI d_fresh2) ∧ (m_token2 = 2 → IV m_nameSize2 0 8) ∧ w = [(h0, .inr (11, [.int m_thrown, .ref a_tape, .int m_taped, .int m_size, .int m_at2, .int m_end2, .int m_token2, .int m_whole2, .int m_nameSize2, .int m_fault2, .int m_place2, .int m_trouble, .ref a_letters, .int m_failed2, .int m_hasHouse, .ref a_r, .ref a_fresh, .ref a_st, .ref a_undone, .ref a_kept, .int m_undos, .int m_images, .ref a_from, .ref a_begin, .ref a_motor, .ref a_change, .ref a_startFrame, .ref a_changeFrame, .ref a_lostAt, .ref a_blackAt, .ref a_slips, .ref a_leftArc, .ref a_died, .ref a_arcs, .int m_bestSum, .int m_nearest, .int m_nearestTown, .ref a_there, .ref a_backAt, .ref a_sorted, .ref a_parts, .int m_seed1, .int m_darkNow])), (a_tape, .inl (g.2.2.1, 900, .inl d_tape)), (a_letters, .inl (g.2.2.1, 8, .inl d_letters2)), (a_fresh, .inl (g.2.2.1, 311, .inl d_fresh2))]) := by
  refine cV.of (by decide) (Nat.le_of_ble_eq_true rfl) ?_
  intro p e s m args below meth c A X hr hi
  refine k_lveq [(0, .ref h0)] rfl ?_
  refine k_aload_n X dX11_townLine_0 0 rfl ?_
  refine k_get (ci := 11) X inlX11 rfl 13 (by decide) dX11_townLine_1 mw469 0 rfl rfl ?_
  refine k_if_eq 8 X dX11_townLine_4 (by decide) (fun h_1 => ?_) (fun h_1 => ?_)
  · skip
    have iv_2 : IV m_failed 0 0 := iv_meet hv_m_failed (iv_e h_1 (show IV 0 0 0 from (by decide))) (by decide) (by decide)
    have hc_3 := hc_0.resolve_left (fun q => iv_eqN q iv_2 (show IV 1 1 1 from (by decide)) (by decide))
    have j_4 : (d_fresh 7).toInt ≤ 3 := hc_3
    refine k_aload_n X dX11_townLine_8 0 rfl ?_
    refine k_bipush (v := 8) X dX11_townLine_9 (by decide) ?_
    refine k_aload_n X dX11_townLine_11 0 rfl ?_
    refine k_get (ci := 11) X inlX11 rfl 16 (by decide) dX11_townLine_12 mw171 0 rfl rfl ?_
    refine k_bipush (v := 7) X dX11_townLine_15 (by decide) ?_
    refine k_iald X dX11_townLine_17 3 rfl (by unfold vp_in; decide) ?_
    refine k_nm (fun z_5 ez_5 => ?_)
    have i_6 : z_5.toInt = (d_fresh 7).toInt := by rw [ez_5]; rfl
    have iv_7 : IV z_5 0 3 := by have := rb_7 ez_5 hp_d_fresh; rw [IV]; omega
    refine k_iadd X dX11_townLine_18 ?_
    refine k_nm (fun z_8 ez_8 => ?_)
    have i_9 : z_8.toInt = 8 + z_5.toInt := in_add ez_8 (show IV 8 8 8 from (by decide)) iv_7 (by decide) (by decide)
    have iv_10 : IV z_8 8 11 := by have := (show IV 8 8 8 from (by decide)); have := iv_7; rw [IV, i_9]; omega
    refine k_callVV (n := 1) (As := [.int z_8]) (st := []) X [(h0, .inr (11, [.int m_thrown, .ref a_tape, .int m_taped, .int m_size, .int m_at, .int m_end, .int m_token, .int m_whole, .int m_nameSize, .int m_fault, .int m_place, .int m_trouble, .ref a_letters, .int m_failed, .int m_hasHouse, .ref a_r, .ref a_fresh, .ref a_st, .ref a_undone, .ref a_kept, .int m_undos, .int m_images, .ref a_from, .ref a_begin, .ref a_motor, .ref a_change, .ref a_startFrame, .ref a_changeFrame, .ref a_lostAt, .ref a_blackAt, .ref a_slips, .ref a_leftArc, .ref a_died, .ref a_arcs, .int m_bestSum, .int m_nearest, .int m_nearestTown, .ref a_there, .ref a_backAt, .ref a_sorted, .ref a_parts, .int m_seed1, .int m_darkNow])), (a_tape, .inl (g.2.2.1, 900, .inl d_tape)), (a_letters, .inl (g.2.2.1, 8, .inl d_letters)), (a_fresh, .inl (g.2.2.1, 311, .inl d_fresh))] [] [0, 1, 2, 3] [] (m_newName l g h0 z_8 m_thrown a_tape m_taped m_size m_at m_end m_token m_whole m_nameSize m_fault m_place m_trouble a_letters m_failed m_hasHouse a_r a_fresh a_st a_undone a_kept m_undos m_images a_from a_begin a_motor a_change a_startFrame a_changeFrame a_lostAt a_blackAt a_slips a_leftArc a_died a_arcs m_bestSum m_nearest m_nearestTown a_there a_backAt a_sorted a_parts m_seed1 m_darkNow d_tape d_letters d_fresh (iv_w iv_10 (by decide) (by decide)) (iv_w hv_m_size (by decide) (by decide)) (iv_w hv_m_end (by decide) (by decide)) (iv_w hv_m_nameSize (by decide) (by decide)) (iv_w iv_2 (by decide) (by decide)) hp_d_fresh hc_1) dX11_townLine_19 mw551 mw552 mw553 mw5 mw554 rfl 11 rfl rfl 0 _ rfl (by unfold yOk; decide) rfl (Nat.le_of_ble_eq_true rfl) (Nat.le_of_ble_eq_true rfl) (Nat.le_of_ble_eq_true rfl) (Nat.le_of_ble_eq_true rfl) (Nat.le_of_ble_eq_true rfl) rfl rfl (by decide) rfl (by decide) (by decide) ?_
    rintro w ⟨m_at2_11, m_end2_12, m_failed2_13, m_fault2_14, d_fresh2_15, d_letters2_16, m_nameSize2_17, m_place2_18, m_token2_19, m_whole2_20, iv_22, iv_23, iv_24, hp_25, hq_26, hq_27, hk_28, rfl⟩
    refine k_ws [(h0, .inr (11, [.int m_thrown, .ref a_tape, .int m_taped, .int m_size, .int m_at2_11, .int m_end2_12, .int m_token2_19, .int m_whole2_20, .int m_nameSize2_17, .int m_fault2_14, .int m_place2_18, .int m_trouble, .ref a_letters, .int m_failed2_13, .int m_hasHouse, .ref a_r, .ref a_fresh, .ref a_st, .ref a_undone, .ref a_kept, .int m_undos, .int m_images, .ref a_from, .ref a_begin, .ref a_motor, .ref a_change, .ref a_startFrame, .ref a_changeFrame, .ref a_lostAt, .ref a_blackAt, .ref a_slips, .ref a_leftArc, .ref a_died, .ref a_arcs, .int m_bestSum, .int m_nearest, .int m_nearestTown, .ref a_there, .ref a_backAt, .ref a_sorted, .ref a_parts, .int m_seed1, .int m_darkNow])), (a_tape, .inl (g.2.2.1, 900, .inl d_tape)), (a_letters, .inl (g.2.2.1, 8, .inl d_letters2_16)), (a_fresh, .inl (g.2.2.1, 311, .inl d_fresh2_15))] rfl ?_
    have hk_29 : K16 d_fresh d_fresh2_15 := KN.k16 hq_26 (by have := iv_10; omega)
    have ek_30 : z_5 = d_fresh2_15 (7 : Int32).toNatClampNeg := ez_5.trans (hk_29 _ (by decide)).symm
    refine k_aload_n X dX11_townLine_22 0 rfl ?_
    refine k_get (ci := 11) X inlX11 rfl 16 (by decide) dX11_townLine_23 mw171 0 rfl rfl ?_
    refine k_bipush (v := 40) X dX11_townLine_26 (by decide) ?_
    refine k_aload_n X dX11_townLine_28 0 rfl ?_
    refine k_get (ci := 11) X inlX11 rfl 16 (by decide) dX11_townLine_29 mw171 0 rfl rfl ?_
    refine k_bipush (v := 7) X dX11_townLine_32 (by decide) ?_
    refine k_iald X dX11_townLine_34 3 rfl (by unfold vp_in; decide) ?_
    refine k_to z_5 ek_30.symm ?_
    refine k_iadd X dX11_townLine_35 ?_
    refine k_nm (fun z_31 ez_31 => ?_)
    have i_32 : z_31.toInt = 40 + z_5.toInt := in_add ez_31 (show IV 40 40 40 from (by decide)) iv_7 (by decide) (by decide)
    have iv_33 : IV z_31 40 43 := by have := (show IV 40 40 40 from (by decide)); have := iv_7; rw [IV, i_32]; omega
    refine k_aload_n X dX11_townLine_36 0 rfl ?_
    refine k_ldcwS (tx := "trust") X dX11_townLine_37 (by decide +kernel) (fun sr_34 hsr_34 => ?_)
    refine k_iconst (v := 1) X dX11_townLine_40 (by decide) ?_
    refine k_bipush (v := 9) X dX11_townLine_41 (by decide) ?_
    refine k_callVI (n := 3) (As := [.ref sr_34, .int 1, .int 9]) (st := [.int z_31, .ref a_fresh]) X [(h0, .inr (11, [.int m_thrown, .ref a_tape, .int m_taped, .int m_size, .int m_at2_11, .int m_end2_12, .int m_token2_19, .int m_whole2_20, .int m_nameSize2_17, .int m_fault2_14, .int m_place2_18, .int m_trouble, .ref a_letters, .int m_failed2_13, .int m_hasHouse, .ref a_r, .ref a_fresh, .ref a_st, .ref a_undone, .ref a_kept, .int m_undos, .int m_images, .ref a_from, .ref a_begin, .ref a_motor, .ref a_change, .ref a_startFrame, .ref a_changeFrame, .ref a_lostAt, .ref a_blackAt, .ref a_slips, .ref a_leftArc, .ref a_died, .ref a_arcs, .int m_bestSum, .int m_nearest, .int m_nearestTown, .ref a_there, .ref a_backAt, .ref a_sorted, .ref a_parts, .int m_seed1, .int m_darkNow])), (a_tape, .inl (g.2.2.1, 900, .inl d_tape)), (a_letters, .inl (g.2.2.1, 8, .inl d_letters2_16))] [(a_fresh, .inl (g.2.2.1, 311, .inl d_fresh2_15))] [0, 1, 2] [3] (m_after l g h0 sr_34 1 9 m_thrown a_tape m_taped m_size m_at2_11 m_end2_12 m_token2_19 m_whole2_20 m_nameSize2_17 m_fault2_14 m_place2_18 m_trouble a_letters m_failed2_13 m_hasHouse a_r a_fresh a_st a_undone a_kept m_undos m_images a_from a_begin a_motor a_change a_startFrame a_changeFrame a_lostAt a_blackAt a_slips a_leftArc a_died a_arcs m_bestSum m_nearest m_nearestTown a_there a_backAt a_sorted a_parts m_seed1 m_darkNow d_tape d_letters2_16 ("trust") (iv_w hv_m_size (by decide) (by decide)) (iv_w iv_22 (by decide) (by decide)) (iv_w iv_24 (by decide) (by decide)) (iv_w iv_23 (by decide) (by decide)) hsr_34 hk_28) dX11_townLine_43 mw523 mw524 mw525 mw5 mw526 rfl 11 rfl rfl 0 _ rfl (by unfold yOk; decide) rfl (Nat.le_of_ble_eq_true rfl) (Nat.le_of_ble_eq_true rfl) (Nat.le_of_ble_eq_true rfl) (Nat.le_of_ble_eq_true rfl) (Nat.le_of_ble_eq_true rfl) rfl rfl (by decide) rfl (by decide) (by decide) ?_
    rintro r_44 w ⟨m_at2_35, m_end2_36, m_failed2_37, m_fault2_38, d_letters2_39, m_nameSize2_40, m_place2_41, m_token2_42, m_whole2_43, iv_45, iv_46, iv_47, hq_48, hq_49, hk_50, rfl⟩
    refine k_ws [(a_fresh, .inl (g.2.2.1, 311, .inl d_fresh2_15)), (h0, .inr (11, [.int m_thrown, .ref a_tape, .int m_taped, .int m_size, .int m_at2_35, .int m_end2_36, .int m_token2_42, .int m_whole2_43, .int m_nameSize2_40, .int m_fault2_38, .int m_place2_41, .int m_trouble, .ref a_letters, .int m_failed2_37, .int m_hasHouse, .ref a_r, .ref a_fresh, .ref a_st, .ref a_undone, .ref a_kept, .int m_undos, .int m_images, .ref a_from, .ref a_begin, .ref a_motor, .ref a_change, .ref a_startFrame, .ref a_changeFrame, .ref a_lostAt, .ref a_blackAt, .ref a_slips, .ref a_leftArc, .ref a_died, .ref a_arcs, .int m_bestSum, .int m_nearest, .int m_nearestTown, .ref a_there, .ref a_backAt, .ref a_sorted, .ref a_parts, .int m_seed1, .int m_darkNow])), (a_tape, .inl (g.2.2.1, 900, .inl d_tape)), (a_letters, .inl (g.2.2.1, 8, .inl d_letters2_39))] rfl ?_
    have e_51 : (1 : Int32).toInt = 1 := by decide
    have e_52 : (9 : Int32).toInt = 9 := by decide
    have iv_53 : IV r_44 1 9 := by have := (show IV 1 1 1 from (by decide)); have := (show IV 9 9 9 from (by decide)); rw [IV]; omega
    refine k_iast [(a_fresh, .inl (g.2.2.1, 311, .inl (upd d_fresh2_15 (z_31 : Int32).toNatClampNeg r_44))), (h0, .inr (11, [.int m_thrown, .ref a_tape, .int m_taped, .int m_size, .int m_at2_35, .int m_end2_36, .int m_token2_42, .int m_whole2_43, .int m_nameSize2_40, .int m_fault2_38, .int m_place2_41, .int m_trouble, .ref a_letters, .int m_failed2_37, .int m_hasHouse, .ref a_r, .ref a_fresh, .ref a_st, .ref a_undone, .ref a_kept, .int m_undos, .int m_images, .ref a_from, .ref a_begin, .ref a_motor, .ref a_change, .ref a_startFrame, .ref a_changeFrame, .ref a_lostAt, .ref a_blackAt, .ref a_slips, .ref a_leftArc, .ref a_died, .ref a_arcs, .int m_bestSum, .int m_nearest, .int m_nearestTown, .ref a_there, .ref a_backAt, .ref a_sorted, .ref a_parts, .int m_seed1, .int m_darkNow])), (a_tape, .inl (g.2.2.1, 900, .inl d_tape)), (a_letters, .inl (g.2.2.1, 8, .inl d_letters2_39))] X dX11_townLine_46 0 rfl (iv_in iv_33 (by decide) (by decide)) rfl ?_
    have i_56 : z_31.toInt = 40 + 1 * z_5.toInt := by omega
    refine (fun hg : ∀ fa_54 : Nat → Int32, fa_54 = upd d_fresh2_15 (z_31 : Int32).toNatClampNeg r_44 → RInv fa_54 → K16 d_fresh2_15 fa_54 → Wk p l e _ s m args below meth c _ A g _ _ _ [(a_fresh, .inl (g.2.2.1, 311, .inl fa_54)), (h0, .inr (11, [.int m_thrown, .ref a_tape, .int m_taped, .int m_size, .int m_at2_35, .int m_end2_36, .int m_token2_42, .int m_whole2_43, .int m_nameSize2_40, .int m_fault2_38, .int m_place2_41, .int m_trouble, .ref a_letters, .int m_failed2_37, .int m_hasHouse, .ref a_r, .ref a_fresh, .ref a_st, .ref a_undone, .ref a_kept, .int m_undos, .int m_images, .ref a_from, .ref a_begin, .ref a_motor, .ref a_change, .ref a_startFrame, .ref a_changeFrame, .ref a_lostAt, .ref a_blackAt, .ref a_slips, .ref a_leftArc, .ref a_died, .ref a_arcs, .int m_bestSum, .int m_nearest, .int m_nearestTown, .ref a_there, .ref a_backAt, .ref a_sorted, .ref a_parts, .int m_seed1, .int m_darkNow])), (a_tape, .inl (g.2.2.1, 900, .inl d_tape)), (a_letters, .inl (g.2.2.1, 8, .inl d_letters2_39))] _ _ _ => hg _ rfl (w_rb_40_1 hp_25 i_56 (iv_w iv_7 (by decide) (by decide)) (iv_w iv_53 (by decide) (by decide))) (k16_u (z := z_31) (by have := iv_33; omega))) (fun fa_54 eq_58 hR_55 hk_57 => ?_)
    have ek_59 : z_5 = fa_54 (7 : Int32).toNatClampNeg := ek_30.trans (hk_57 _ (by decide)).symm
    have hT_60 : TRI fa_54 := tri_town (v := z_5) (z := z_31) hr_0 hp_d_fresh hq_26 eq_58 (by omega) (iv_w iv_7 (by decide) (by decide)) (by omega) (iv_w iv_53 (by decide) (by decide))
    refine k_aload_n X dX11_townLine_47 0 rfl ?_
    refine k_get (ci := 11) X inlX11 rfl 13 (by decide) dX11_townLine_48 mw469 1 rfl rfl ?_
    refine k_if_ne 65 X dX11_townLine_51 (by decide) (fun h_61 => ?_) (fun h_61 => ?_)
    · skip
      have iv_62 : IV m_failed2_37 1 1 := iv_neL h_61 iv_46 (show IV 0 0 0 from (by decide)) (by decide)
      exact k_vret X hr dX11_townLine_65 (Nat.le_of_ble_eq_true rfl) (Nat.le_of_ble_eq_true rfl) [1, 2, 3, 0] (by decide) rfl rfl ⟨m_at2_35, m_end2_36, m_failed2_37, m_fault2_38, fa_54, d_letters2_39, m_nameSize2_40, m_place2_41, m_token2_42, m_whole2_43, (iv_w iv_45 (by decide) (by decide)), (iv_w iv_62 (by decide) (by decide)), (iv_w iv_47 (by decide) (by decide)), hR_55, (by omega), hT_60, hk_50, rfl⟩
    · skip
      have iv_63 : IV m_failed2_37 0 0 := iv_meet iv_46 (iv_e h_61 (show IV 0 0 0 from (by decide))) (by decide) (by decide)
      refine k_aload_n X dX11_townLine_54 0 rfl ?_
      refine k_get (ci := 11) X inlX11 rfl 16 (by decide) dX11_townLine_55 mw171 1 rfl rfl ?_
      refine k_bipush (v := 7) X dX11_townLine_58 (by decide) ?_
      refine k_dup2 X dX11_townLine_60 rfl rfl ?_
      refine k_iald X dX11_townLine_61 0 rfl (by unfold vp_in; decide) ?_
      refine k_to z_5 ek_59.symm ?_
      refine k_iconst (v := 1) X dX11_townLine_62 (by decide) ?_
      refine k_iadd X dX11_townLine_63 ?_
      refine k_nm (fun z_64 ez_64 => ?_)
      have i_65 : z_64.toInt = z_5.toInt + 1 := in_add ez_64 iv_7 (show IV 1 1 1 from (by decide)) (by decide) (by decide)
      have iv_66 : IV z_64 1 4 := by have := iv_7; have := (show IV 1 1 1 from (by decide)); rw [IV, i_65]; omega
      refine k_iast [(a_fresh, .inl (g.2.2.1, 311, .inl (upd fa_54 (7 : Int32).toNatClampNeg z_64))), (h0, .inr (11, [.int m_thrown, .ref a_tape, .int m_taped, .int m_size, .int m_at2_35, .int m_end2_36, .int m_token2_42, .int m_whole2_43, .int m_nameSize2_40, .int m_fault2_38, .int m_place2_41, .int m_trouble, .ref a_letters, .int m_failed2_37, .int m_hasHouse, .ref a_r, .ref a_fresh, .ref a_st, .ref a_undone, .ref a_kept, .int m_undos, .int m_images, .ref a_from, .ref a_begin, .ref a_motor, .ref a_change, .ref a_startFrame, .ref a_changeFrame, .ref a_lostAt, .ref a_blackAt, .ref a_slips, .ref a_leftArc, .ref a_died, .ref a_arcs, .int m_bestSum, .int m_nearest, .int m_nearestTown, .ref a_there, .ref a_backAt, .ref a_sorted, .ref a_parts, .int m_seed1, .int m_darkNow])), (a_tape, .inl (g.2.2.1, 900, .inl d_tape)), (a_letters, .inl (g.2.2.1, 8, .inl d_letters2_39))] X dX11_townLine_64 0 rfl (by unfold vp_in; decide) rfl ?_
      refine (fun hg : ∀ fa_67 : Nat → Int32, fa_67 = upd fa_54 (7 : Int32).toNatClampNeg z_64 → RInv fa_67 → Wk p l e _ s m args below meth c _ A g _ _ _ [(a_fresh, .inl (g.2.2.1, 311, .inl fa_67)), (h0, .inr (11, [.int m_thrown, .ref a_tape, .int m_taped, .int m_size, .int m_at2_35, .int m_end2_36, .int m_token2_42, .int m_whole2_43, .int m_nameSize2_40, .int m_fault2_38, .int m_place2_41, .int m_trouble, .ref a_letters, .int m_failed2_37, .int m_hasHouse, .ref a_r, .ref a_fresh, .ref a_st, .ref a_undone, .ref a_kept, .int m_undos, .int m_images, .ref a_from, .ref a_begin, .ref a_motor, .ref a_change, .ref a_startFrame, .ref a_changeFrame, .ref a_lostAt, .ref a_blackAt, .ref a_slips, .ref a_leftArc, .ref a_died, .ref a_arcs, .int m_bestSum, .int m_nearest, .int m_nearestTown, .ref a_there, .ref a_backAt, .ref a_sorted, .ref a_parts, .int m_seed1, .int m_darkNow])), (a_tape, .inl (g.2.2.1, 900, .inl d_tape)), (a_letters, .inl (g.2.2.1, 8, .inl d_letters2_39))] _ _ _ => hg _ rfl (w_rb_7 hR_55 (iv_w iv_66 (by decide) (by decide)))) (fun fa_67 eq_70 hR_68 => ?_)
      have hT_71 : TRI fa_67 := by rw [eq_70]; exact tri_n (z := 7) hT_60 hR_55 (by decide) (by decide) (by decide) (by decide)
      exact k_vret X hr dX11_townLine_65 (Nat.le_of_ble_eq_true rfl) (Nat.le_of_ble_eq_true rfl) [1, 2, 3, 0] (by decide) rfl rfl ⟨m_at2_35, m_end2_36, m_failed2_37, m_fault2_38, fa_67, d_letters2_39, m_nameSize2_40, m_place2_41, m_token2_42, m_whole2_43, (iv_w iv_45 (by decide) (by decide)), (iv_w iv_63 (by decide) (by decide)), (iv_w iv_47 (by decide) (by decide)), hR_68, (by omega), hT_71, hk_50, rfl⟩
  · skip
    have iv_72 : IV m_failed 1 1 := iv_neL h_1 hv_m_failed (show IV 0 0 0 from (by decide)) (by decide)
    exact k_vret X hr dX11_townLine_7 (Nat.le_of_ble_eq_true rfl) (Nat.le_of_ble_eq_true rfl) [0, 1, 2, 3] (by decide) rfl rfl ⟨m_at, m_end, m_failed, m_fault, d_fresh, d_letters, m_nameSize, m_place, m_token, m_whole, (iv_w hv_m_end (by decide) (by decide)), (iv_w iv_72 (by decide) (by decide)), (iv_w hv_m_nameSize (by decide) (by decide)), hp_d_fresh, (by omega), hr_0, hc_1, rfl⟩

theorem dX11_markLine_0 : decode cX11_markLine 0 = .ok (.aload_n 0, 1) := by decide +kernel
theorem dX11_markLine_1 : decode cX11_markLine 1 = .ok (.getfield 121, 3) := by decide +kernel
theorem dX11_markLine_4 : decode cX11_markLine 4 = .ok (.ifCond .eq 4, 3) := by decide +kernel
theorem dX11_markLine_7 : decode cX11_markLine 7 = .ok (.return_, 1) := by decide +kernel
theorem dX11_markLine_8 : decode cX11_markLine 8 = .ok (.bipush 44, 2) := by decide +kernel
theorem dX11_markLine_10 : decode cX11_markLine 10 = .ok (.iconst 3, 1) := by decide +kernel
theorem dX11_markLine_11 : decode cX11_markLine 11 = .ok (.aload_n 0, 1) := by decide +kernel
theorem dX11_markLine_12 : decode cX11_markLine 12 = .ok (.getfield 23, 3) := by decide +kernel
theorem dX11_markLine_15 : decode cX11_markLine 15 = .ok (.bipush 8, 2) := by decide +kernel
theorem dX11_markLine_17 : decode cX11_markLine 17 = .ok (.iaload, 1) := by decide +kernel
theorem dX11_markLine_18 : decode cX11_markLine 18 = .ok (.imul, 1) := by decide +kernel
theorem dX11_markLine_19 : decode cX11_markLine 19 = .ok (.iadd, 1) := by decide +kernel
theorem dX11_markLine_20 : decode cX11_markLine 20 = .ok (.istore_n 1, 1) := by decide +kernel
theorem dX11_markLine_21 : decode cX11_markLine 21 = .ok (.aload_n 0, 1) := by decide +kernel
theorem dX11_markLine_22 : decode cX11_markLine 22 = .ok (.invokevirtual 288, 3) := by decide +kernel
theorem dX11_markLine_25 : decode cX11_markLine 25 = .ok (.istore_n 2, 1) := by decide +kernel
theorem dX11_markLine_26 : decode cX11_markLine 26 = .ok (.aload_n 0, 1) := by decide +kernel
theorem dX11_markLine_27 : decode cX11_markLine 27 = .ok (.getfield 121, 3) := by decide +kernel
theorem dX11_markLine_30 : decode cX11_markLine 30 = .ok (.ifCond .eq 7, 3) := by decide +kernel
theorem dX11_markLine_33 : decode cX11_markLine 33 = .ok (.iconst 0, 1) := by decide +kernel
theorem dX11_markLine_34 : decode cX11_markLine 34 = .ok (.goto 8, 3) := by decide +kernel
theorem dX11_markLine_37 : decode cX11_markLine 37 = .ok (.aload_n 0, 1) := by decide +kernel
theorem dX11_markLine_38 : decode cX11_markLine 38 = .ok (.iload_n 2, 1) := by decide +kernel
theorem dX11_markLine_39 : decode cX11_markLine 39 = .ok (.invokevirtual 291, 3) := by decide +kernel
theorem dX11_markLine_42 : decode cX11_markLine 42 = .ok (.istore_n 3, 1) := by decide +kernel
theorem dX11_markLine_43 : decode cX11_markLine 43 = .ok (.aload_n 0, 1) := by decide +kernel
theorem dX11_markLine_44 : decode cX11_markLine 44 = .ok (.ldc 170, 2) := by decide +kernel
theorem dX11_markLine_46 : decode cX11_markLine 46 = .ok (.invokevirtual 193, 3) := by decide +kernel
theorem dX11_markLine_49 : decode cX11_markLine 49 = .ok (.aload_n 0, 1) := by decide +kernel
theorem dX11_markLine_50 : decode cX11_markLine 50 = .ok (.bipush 8, 2) := by decide +kernel
theorem dX11_markLine_52 : decode cX11_markLine 52 = .ok (.bipush 11, 2) := by decide +kernel
theorem dX11_markLine_54 : decode cX11_markLine 54 = .ok (.invokevirtual 186, 3) := by decide +kernel
theorem dX11_markLine_57 : decode cX11_markLine 57 = .ok (.istore 4, 2) := by decide +kernel
theorem dX11_markLine_59 : decode cX11_markLine 59 = .ok (.iconst 0, 1) := by decide +kernel
theorem dX11_markLine_60 : decode cX11_markLine 60 = .ok (.istore 5, 2) := by decide +kernel
theorem dX11_markLine_62 : decode cX11_markLine 62 = .ok (.iload 5, 2) := by decide +kernel
theorem dX11_markLine_64 : decode cX11_markLine 64 = .ok (.aload_n 0, 1) := by decide +kernel
theorem dX11_markLine_65 : decode cX11_markLine 65 = .ok (.getfield 23, 3) := by decide +kernel
theorem dX11_markLine_68 : decode cX11_markLine 68 = .ok (.bipush 8, 2) := by decide +kernel
theorem dX11_markLine_70 : decode cX11_markLine 70 = .ok (.iaload, 1) := by decide +kernel
theorem dX11_markLine_71 : decode cX11_markLine 71 = .ok (.if_icmp .ge 60, 3) := by decide +kernel
theorem dX11_markLine_74 : decode cX11_markLine 74 = .ok (.aload_n 0, 1) := by decide +kernel
theorem dX11_markLine_75 : decode cX11_markLine 75 = .ok (.getfield 121, 3) := by decide +kernel
theorem dX11_markLine_78 : decode cX11_markLine 78 = .ok (.ifCond .ne 47, 3) := by decide +kernel
theorem dX11_markLine_81 : decode cX11_markLine 81 = .ok (.aload_n 0, 1) := by decide +kernel
theorem dX11_markLine_82 : decode cX11_markLine 82 = .ok (.getfield 23, 3) := by decide +kernel
theorem dX11_markLine_85 : decode cX11_markLine 85 = .ok (.bipush 44, 2) := by decide +kernel
theorem dX11_markLine_87 : decode cX11_markLine 87 = .ok (.iconst 3, 1) := by decide +kernel
theorem dX11_markLine_88 : decode cX11_markLine 88 = .ok (.iload 5, 2) := by decide +kernel
theorem dX11_markLine_90 : decode cX11_markLine 90 = .ok (.imul, 1) := by decide +kernel
theorem dX11_markLine_91 : decode cX11_markLine 91 = .ok (.iadd, 1) := by decide +kernel
theorem dX11_markLine_92 : decode cX11_markLine 92 = .ok (.iaload, 1) := by decide +kernel
theorem dX11_markLine_93 : decode cX11_markLine 93 = .ok (.iload_n 2, 1) := by decide +kernel
theorem dX11_markLine_94 : decode cX11_markLine 94 = .ok (.if_icmp .ne 31, 3) := by decide +kernel
theorem dX11_markLine_97 : decode cX11_markLine 97 = .ok (.aload_n 0, 1) := by decide +kernel
theorem dX11_markLine_98 : decode cX11_markLine 98 = .ok (.getfield 23, 3) := by decide +kernel
theorem dX11_markLine_101 : decode cX11_markLine 101 = .ok (.bipush 44, 2) := by decide +kernel
theorem dX11_markLine_103 : decode cX11_markLine 103 = .ok (.iconst 3, 1) := by decide +kernel
theorem dX11_markLine_104 : decode cX11_markLine 104 = .ok (.iload 5, 2) := by decide +kernel
theorem dX11_markLine_106 : decode cX11_markLine 106 = .ok (.imul, 1) := by decide +kernel
theorem dX11_markLine_107 : decode cX11_markLine 107 = .ok (.iadd, 1) := by decide +kernel
theorem dX11_markLine_108 : decode cX11_markLine 108 = .ok (.iconst 2, 1) := by decide +kernel
theorem dX11_markLine_109 : decode cX11_markLine 109 = .ok (.iadd, 1) := by decide +kernel
theorem dX11_markLine_110 : decode cX11_markLine 110 = .ok (.iaload, 1) := by decide +kernel
theorem dX11_markLine_111 : decode cX11_markLine 111 = .ok (.iload 4, 2) := by decide +kernel
theorem dX11_markLine_113 : decode cX11_markLine 113 = .ok (.if_icmp .ne 12, 3) := by decide +kernel
theorem dX11_markLine_116 : decode cX11_markLine 116 = .ok (.aload_n 0, 1) := by decide +kernel
theorem dX11_markLine_117 : decode cX11_markLine 117 = .ok (.iconst 3, 1) := by decide +kernel
theorem dX11_markLine_118 : decode cX11_markLine 118 = .ok (.aload_n 0, 1) := by decide +kernel
theorem dX11_markLine_119 : decode cX11_markLine 119 = .ok (.getfield 102, 3) := by decide +kernel
theorem dX11_markLine_122 : decode cX11_markLine 122 = .ok (.invokevirtual 148, 3) := by decide +kernel
theorem dX11_markLine_125 : decode cX11_markLine 125 = .ok (.iinc 5 1, 3) := by decide +kernel
theorem dX11_markLine_128 : decode cX11_markLine 128 = .ok (.goto (-66), 3) := by decide +kernel
theorem dX11_markLine_131 : decode cX11_markLine 131 = .ok (.aload_n 0, 1) := by decide +kernel
theorem dX11_markLine_132 : decode cX11_markLine 132 = .ok (.getfield 121, 3) := by decide +kernel
theorem dX11_markLine_135 : decode cX11_markLine 135 = .ok (.ifCond .eq 4, 3) := by decide +kernel
theorem dX11_markLine_138 : decode cX11_markLine 138 = .ok (.return_, 1) := by decide +kernel
theorem dX11_markLine_139 : decode cX11_markLine 139 = .ok (.aload_n 0, 1) := by decide +kernel
theorem dX11_markLine_140 : decode cX11_markLine 140 = .ok (.invokevirtual 142, 3) := by decide +kernel
theorem dX11_markLine_143 : decode cX11_markLine 143 = .ok (.aload_n 0, 1) := by decide +kernel
theorem dX11_markLine_144 : decode cX11_markLine 144 = .ok (.getfield 23, 3) := by decide +kernel
theorem dX11_markLine_147 : decode cX11_markLine 147 = .ok (.iload_n 1, 1) := by decide +kernel
theorem dX11_markLine_148 : decode cX11_markLine 148 = .ok (.iload_n 2, 1) := by decide +kernel
theorem dX11_markLine_149 : decode cX11_markLine 149 = .ok (.iastore, 1) := by decide +kernel
theorem dX11_markLine_150 : decode cX11_markLine 150 = .ok (.aload_n 0, 1) := by decide +kernel
theorem dX11_markLine_151 : decode cX11_markLine 151 = .ok (.getfield 23, 3) := by decide +kernel
theorem dX11_markLine_154 : decode cX11_markLine 154 = .ok (.iload_n 1, 1) := by decide +kernel
theorem dX11_markLine_155 : decode cX11_markLine 155 = .ok (.iconst 1, 1) := by decide +kernel
theorem dX11_markLine_156 : decode cX11_markLine 156 = .ok (.iadd, 1) := by decide +kernel
theorem dX11_markLine_157 : decode cX11_markLine 157 = .ok (.iload_n 3, 1) := by decide +kernel
theorem dX11_markLine_158 : decode cX11_markLine 158 = .ok (.iastore, 1) := by decide +kernel
theorem dX11_markLine_159 : decode cX11_markLine 159 = .ok (.aload_n 0, 1) := by decide +kernel
theorem dX11_markLine_160 : decode cX11_markLine 160 = .ok (.getfield 23, 3) := by decide +kernel
theorem dX11_markLine_163 : decode cX11_markLine 163 = .ok (.iload_n 1, 1) := by decide +kernel
theorem dX11_markLine_164 : decode cX11_markLine 164 = .ok (.iconst 2, 1) := by decide +kernel
theorem dX11_markLine_165 : decode cX11_markLine 165 = .ok (.iadd, 1) := by decide +kernel
theorem dX11_markLine_166 : decode cX11_markLine 166 = .ok (.iload 4, 2) := by decide +kernel
theorem dX11_markLine_168 : decode cX11_markLine 168 = .ok (.iastore, 1) := by decide +kernel
theorem dX11_markLine_169 : decode cX11_markLine 169 = .ok (.aload_n 0, 1) := by decide +kernel
theorem dX11_markLine_170 : decode cX11_markLine 170 = .ok (.getfield 23, 3) := by decide +kernel
theorem dX11_markLine_173 : decode cX11_markLine 173 = .ok (.bipush 8, 2) := by decide +kernel
theorem dX11_markLine_175 : decode cX11_markLine 175 = .ok (.dup2, 1) := by decide +kernel
theorem dX11_markLine_176 : decode cX11_markLine 176 = .ok (.iaload, 1) := by decide +kernel
theorem dX11_markLine_177 : decode cX11_markLine 177 = .ok (.iconst 1, 1) := by decide +kernel
theorem dX11_markLine_178 : decode cX11_markLine 178 = .ok (.iadd, 1) := by decide +kernel
theorem dX11_markLine_179 : decode cX11_markLine 179 = .ok (.iastore, 1) := by decide +kernel
theorem dX11_markLine_180 : decode cX11_markLine 180 = .ok (.return_, 1) := by decide +kernel
set_option maxHeartbeats 4000000 in
set_option maxRecDepth 100000 in
theorem m_markLine (l : Launch) (g : Gx) (h0 : Nat) (m_thrown : Int32) (a_tape : Nat) (m_taped : Int32) (m_size : Int32) (m_at : Int32) (m_end : Int32) (m_token : Int32) (m_whole : Int32) (m_nameSize : Int32) (m_fault : Int32) (m_place : Int32) (m_trouble : Int32) (a_letters : Nat) (m_failed : Int32) (m_hasHouse : Int32) (a_r : Nat) (a_fresh : Nat) (a_st : Nat) (a_undone : Nat) (a_kept : Nat) (m_undos : Int32) (m_images : Int32) (a_from : Nat) (a_begin : Nat) (a_motor : Nat) (a_change : Nat) (a_startFrame : Nat) (a_changeFrame : Nat) (a_lostAt : Nat) (a_blackAt : Nat) (a_slips : Nat) (a_leftArc : Nat) (a_died : Nat) (a_arcs : Nat) (m_bestSum : Int32) (m_nearest : Int32) (m_nearestTown : Int32) (a_there : Nat) (a_backAt : Nat) (a_sorted : Nat) (a_parts : Nat) (m_seed1 : Int32) (m_darkNow : Int32) (d_tape : Nat → Int32) (d_letters : Nat → Int32) (d_fresh : Nat → Int32) (hv_m_size : IV m_size 0 900) (hv_m_end : IV m_end 0 900) (hv_m_nameSize : IV m_nameSize 0 900) (hv_m_failed : IV m_failed 0 1) (hp_d_fresh : RInv d_fresh) (hr_0 : TRI d_fresh) (hc_0 : m_failed = 1 ∨ ((d_fresh 8).toInt ≤ 11)) (hc_1 : m_token = 2 → IV m_nameSize 0 8) : cV l g yX11_markLine cX11_markLine 6 8 173 0 0 [.ref h0] [(h0, .inr (11, [.int m_thrown, .ref a_tape, .int m_taped, .int m_size, .int m_at, .int m_end, .int m_token, .int m_whole, .int m_nameSize, .int m_fault, .int m_place, .int m_trouble, .ref a_letters, .int m_failed, .int m_hasHouse, .ref a_r, .ref a_fresh, .ref a_st, .ref a_undone, .ref a_kept, .int m_undos, .int m_images, .ref a_from, .ref a_begin, .ref a_motor, .ref a_change, .ref a_startFrame, .ref a_changeFrame, .ref a_lostAt, .ref a_blackAt, .ref a_slips, .ref a_leftArc, .ref a_died, .ref a_arcs, .int m_bestSum, .int m_nearest, .int m_nearestTown, .ref a_there, .ref a_backAt, .ref a_sorted, .ref a_parts, .int m_seed1, .int m_darkNow])), (a_tape, .inl (g.2.2.1, 900, .inl d_tape)), (a_letters, .inl (g.2.2.1, 8, .inl d_letters)), (a_fresh, .inl (g.2.2.1, 311, .inl d_fresh))] (fun w => ∃ (m_at2 : Int32) (m_end2 : Int32) (m_failed2 : Int32) (m_fault2 : Int32) (d_fresh2 : Nat → Int32) (d_letters2 : Nat → Int32) (m_nameSize2 : Int32) (m_place2 : Int32) (m_token2 : Int32) (m_whole2 : Int32), IV m_end2 0 900 ∧ IV m_failed2 0 1 ∧ IV m_nameSize2 0 900 ∧ RInv d_fresh2 ∧ (m_end.toInt ≤ m_end2.toInt) ∧ (TRI d_fresh2) ∧ (m_token2 = 2 → IV m_nameSize2 0 8) ∧ w = [(h0, .inr (11, [.int m_thrown, .ref a_tape, .int m_taped, .int m_size, .int m_at2, .int m_end2, .int m_token2, .int m_whole2, .int m_nameSize2, .int m_fault2, .int m_place2, .int m_trouble, .ref a_letters, .int m_failed2, .int m_hasHouse, .ref a_r, .ref a_fresh, .ref a_st, .ref a_undone, .ref a_kept, .int m_undos, .int m_images, .ref a_from, .ref a_begin, .ref a_motor, .ref a_change, .ref a_startFrame, .ref a_changeFrame, .ref a_lostAt, .ref a_blackAt, .ref a_slips, .ref a_leftArc, .ref a_died, .ref a_arcs, .int m_bestSum, .int m_nearest, .int m_nearestTown, .ref a_there, .ref a_backAt, .ref a_sorted, .ref a_parts, .int m_seed1, .int m_darkNow])), (a_tape, .inl (g.2.2.1, 900, .inl d_tape)), (a_letters, .inl (g.2.2.1, 8, .inl d_letters2)), (a_fresh, .inl (g.2.2.1, 311, .inl d_fresh2))]) := by
  refine cV.of (by decide) (Nat.le_of_ble_eq_true rfl) ?_
  intro p e s m args below meth c A X hr hi
  refine k_lveq [(0, .ref h0)] rfl ?_
  refine k_aload_n X dX11_markLine_0 0 rfl ?_
  refine k_get (ci := 11) X inlX11 rfl 13 (by decide) dX11_markLine_1 mw469 0 rfl rfl ?_
  refine k_if_eq 8 X dX11_markLine_4 (by decide) (fun h_1 => ?_) (fun h_1 => ?_)
  · skip
    have iv_2 : IV m_failed 0 0 := iv_meet hv_m_failed (iv_e h_1 (show IV 0 0 0 from (by decide))) (by decide) (by decide)
    have hc_3 := hc_0.resolve_left (fun q => iv_eqN q iv_2 (show IV 1 1 1 from (by decide)) (by decide))
    have j_4 : (d_fresh 8).toInt ≤ 11 := hc_3
    refine k_bipush (v := 44) X dX11_markLine_8 (by decide) ?_
    refine k_iconst (v := 3) X dX11_markLine_10 (by decide) ?_
    refine k_aload_n X dX11_markLine_11 0 rfl ?_
    refine k_get (ci := 11) X inlX11 rfl 16 (by decide) dX11_markLine_12 mw171 0 rfl rfl ?_
    refine k_bipush (v := 8) X dX11_markLine_15 (by decide) ?_
    refine k_iald X dX11_markLine_17 3 rfl (by unfold vp_in; decide) ?_
    refine k_nm (fun z_5 ez_5 => ?_)
    have i_6 : z_5.toInt = (d_fresh 8).toInt := by rw [ez_5]; rfl
    have iv_7 : IV z_5 0 11 := by have := rb_8 ez_5 hp_d_fresh; rw [IV]; omega
    refine k_imul X dX11_markLine_18 ?_
    refine k_nm (fun z_8 ez_8 => ?_)
    have i_9 : z_8.toInt = 3 * z_5.toInt := in_mul ez_8 (by decide) (by decide) iv_7 (by decide) (by decide)
    have iv_10 : IV z_8 0 33 := by have := (show IV 3 3 3 from (by decide)); have := iv_7; rw [IV, i_9]; omega
    refine k_iadd X dX11_markLine_19 ?_
    refine k_nm (fun z_11 ez_11 => ?_)
    have i_12 : z_11.toInt = 44 + z_8.toInt := in_add ez_11 (show IV 44 44 44 from (by decide)) iv_10 (by decide) (by decide)
    have iv_13 : IV z_11 44 77 := by have := (show IV 44 44 44 from (by decide)); have := iv_10; rw [IV, i_12]; omega
    refine k_istore_n [(1, .int z_11), (0, .ref h0)] X dX11_markLine_20 (by decide) rfl ?_
    refine k_aload_n X dX11_markLine_21 1 rfl ?_
    refine k_callVI (n := 0) (As := []) (st := []) X [(h0, .inr (11, [.int m_thrown, .ref a_tape, .int m_taped, .int m_size, .int m_at, .int m_end, .int m_token, .int m_whole, .int m_nameSize, .int m_fault, .int m_place, .int m_trouble, .ref a_letters, .int m_failed, .int m_hasHouse, .ref a_r, .ref a_fresh, .ref a_st, .ref a_undone, .ref a_kept, .int m_undos, .int m_images, .ref a_from, .ref a_begin, .ref a_motor, .ref a_change, .ref a_startFrame, .ref a_changeFrame, .ref a_lostAt, .ref a_blackAt, .ref a_slips, .ref a_leftArc, .ref a_died, .ref a_arcs, .int m_bestSum, .int m_nearest, .int m_nearestTown, .ref a_there, .ref a_backAt, .ref a_sorted, .ref a_parts, .int m_seed1, .int m_darkNow])), (a_tape, .inl (g.2.2.1, 900, .inl d_tape)), (a_letters, .inl (g.2.2.1, 8, .inl d_letters)), (a_fresh, .inl (g.2.2.1, 311, .inl d_fresh))] [] [0, 1, 2, 3] [] (m_reelPassed l g h0 m_thrown a_tape m_taped m_size m_at m_end m_token m_whole m_nameSize m_fault m_place m_trouble a_letters m_failed m_hasHouse a_r a_fresh a_st a_undone a_kept m_undos m_images a_from a_begin a_motor a_change a_startFrame a_changeFrame a_lostAt a_blackAt a_slips a_leftArc a_died a_arcs m_bestSum m_nearest m_nearestTown a_there a_backAt a_sorted a_parts m_seed1 m_darkNow d_tape d_letters d_fresh (iv_w hv_m_size (by decide) (by decide)) (iv_w hv_m_end (by decide) (by decide)) (iv_w hv_m_nameSize (by decide) (by decide)) (iv_w iv_2 (by decide) (by decide)) hp_d_fresh hc_1) dX11_markLine_22 mw571 mw572 mw573 mw5 mw574 rfl 11 rfl rfl 0 _ rfl (by unfold yOk; decide) rfl (Nat.le_of_ble_eq_true rfl) (Nat.le_of_ble_eq_true rfl) (Nat.le_of_ble_eq_true rfl) (Nat.le_of_ble_eq_true rfl) (Nat.le_of_ble_eq_true rfl) rfl rfl (by decide) rfl (by decide) (by decide) ?_
    rintro r_23 w ⟨m_at2_14, m_end2_15, m_failed2_16, m_fault2_17, d_letters2_18, m_nameSize2_19, m_place2_20, m_token2_21, m_whole2_22, iv_24, iv_25, iv_26, iv_27, hq_28, hk_29, rfl⟩
    refine k_ws [(h0, .inr (11, [.int m_thrown, .ref a_tape, .int m_taped, .int m_size, .int m_at2_14, .int m_end2_15, .int m_token2_21, .int m_whole2_22, .int m_nameSize2_19, .int m_fault2_17, .int m_place2_20, .int m_trouble, .ref a_letters, .int m_failed2_16, .int m_hasHouse, .ref a_r, .ref a_fresh, .ref a_st, .ref a_undone, .ref a_kept, .int m_undos, .int m_images, .ref a_from, .ref a_begin, .ref a_motor, .ref a_change, .ref a_startFrame, .ref a_changeFrame, .ref a_lostAt, .ref a_blackAt, .ref a_slips, .ref a_leftArc, .ref a_died, .ref a_arcs, .int m_bestSum, .int m_nearest, .int m_nearestTown, .ref a_there, .ref a_backAt, .ref a_sorted, .ref a_parts, .int m_seed1, .int m_darkNow])), (a_tape, .inl (g.2.2.1, 900, .inl d_tape)), (a_letters, .inl (g.2.2.1, 8, .inl d_letters2_18)), (a_fresh, .inl (g.2.2.1, 311, .inl d_fresh))] rfl ?_
    refine k_istore_n [(2, .int r_23), (1, .int z_11), (0, .ref h0)] X dX11_markLine_25 (by decide) rfl ?_
    refine k_aload_n X dX11_markLine_26 2 rfl ?_
    refine k_get (ci := 11) X inlX11 rfl 13 (by decide) dX11_markLine_27 mw469 0 rfl rfl ?_
    refine k_if_eq 37 X dX11_markLine_30 (by decide) (fun h_30 => ?_) (fun h_30 => ?_)
    · skip
      have iv_31 : IV m_failed2_16 0 0 := iv_meet iv_25 (iv_e h_30 (show IV 0 0 0 from (by decide))) (by decide) (by decide)
      refine k_aload_n X dX11_markLine_37 2 rfl ?_
      refine k_iload_n X dX11_markLine_38 0 rfl ?_
      refine k_callVI (n := 1) (As := [.int r_23]) (st := []) X [(h0, .inr (11, [.int m_thrown, .ref a_tape, .int m_taped, .int m_size, .int m_at2_14, .int m_end2_15, .int m_token2_21, .int m_whole2_22, .int m_nameSize2_19, .int m_fault2_17, .int m_place2_20, .int m_trouble, .ref a_letters, .int m_failed2_16, .int m_hasHouse, .ref a_r, .ref a_fresh, .ref a_st, .ref a_undone, .ref a_kept, .int m_undos, .int m_images, .ref a_from, .ref a_begin, .ref a_motor, .ref a_change, .ref a_startFrame, .ref a_changeFrame, .ref a_lostAt, .ref a_blackAt, .ref a_slips, .ref a_leftArc, .ref a_died, .ref a_arcs, .int m_bestSum, .int m_nearest, .int m_nearestTown, .ref a_there, .ref a_backAt, .ref a_sorted, .ref a_parts, .int m_seed1, .int m_darkNow])), (a_tape, .inl (g.2.2.1, 900, .inl d_tape)), (a_letters, .inl (g.2.2.1, 8, .inl d_letters2_18)), (a_fresh, .inl (g.2.2.1, 311, .inl d_fresh))] [] [0, 1, 2, 3] [] (m_frameOf l g h0 r_23 m_thrown a_tape m_taped m_size m_at2_14 m_end2_15 m_token2_21 m_whole2_22 m_nameSize2_19 m_fault2_17 m_place2_20 m_trouble a_letters m_failed2_16 m_hasHouse a_r a_fresh a_st a_undone a_kept m_undos m_images a_from a_begin a_motor a_change a_startFrame a_changeFrame a_lostAt a_blackAt a_slips a_leftArc a_died a_arcs m_bestSum m_nearest m_nearestTown a_there a_backAt a_sorted a_parts m_seed1 m_darkNow d_tape d_letters2_18 d_fresh (iv_w iv_27 (by decide) (by decide)) (iv_w hv_m_size (by decide) (by decide)) (iv_w iv_24 (by decide) (by decide)) (iv_w iv_26 (by decide) (by decide)) (iv_w iv_31 (by decide) (by decide)) hp_d_fresh hk_29) dX11_markLine_39 mw579 mw580 mw581 mw5 mw582 rfl 11 rfl rfl 0 _ rfl (by unfold yOk; decide) rfl (Nat.le_of_ble_eq_true rfl) (Nat.le_of_ble_eq_true rfl) (Nat.le_of_ble_eq_true rfl) (Nat.le_of_ble_eq_true rfl) (Nat.le_of_ble_eq_true rfl) rfl rfl (by decide) rfl (by decide) (by decide) ?_
      rintro r_41 w ⟨m_at2_32, m_end2_33, m_failed2_34, m_fault2_35, d_letters2_36, m_nameSize2_37, m_place2_38, m_token2_39, m_whole2_40, iv_42, iv_43, iv_44, hq_45, hk_46, rfl⟩
      refine k_ws [(h0, .inr (11, [.int m_thrown, .ref a_tape, .int m_taped, .int m_size, .int m_at2_32, .int m_end2_33, .int m_token2_39, .int m_whole2_40, .int m_nameSize2_37, .int m_fault2_35, .int m_place2_38, .int m_trouble, .ref a_letters, .int m_failed2_34, .int m_hasHouse, .ref a_r, .ref a_fresh, .ref a_st, .ref a_undone, .ref a_kept, .int m_undos, .int m_images, .ref a_from, .ref a_begin, .ref a_motor, .ref a_change, .ref a_startFrame, .ref a_changeFrame, .ref a_lostAt, .ref a_blackAt, .ref a_slips, .ref a_leftArc, .ref a_died, .ref a_arcs, .int m_bestSum, .int m_nearest, .int m_nearestTown, .ref a_there, .ref a_backAt, .ref a_sorted, .ref a_parts, .int m_seed1, .int m_darkNow])), (a_tape, .inl (g.2.2.1, 900, .inl d_tape)), (a_letters, .inl (g.2.2.1, 8, .inl d_letters2_36)), (a_fresh, .inl (g.2.2.1, 311, .inl d_fresh))] rfl ?_
      refine k_istore_n [(3, .int r_41), (2, .int r_23), (1, .int z_11), (0, .ref h0)] X dX11_markLine_42 (by decide) rfl ?_
      refine k_aload_n X dX11_markLine_43 3 rfl ?_
      refine k_ldcS (tx := "by") X dX11_markLine_44 (by decide +kernel) (fun sr_47 hsr_47 => ?_)
      refine k_callVV (n := 1) (As := [.ref sr_47]) (st := []) X [(h0, .inr (11, [.int m_thrown, .ref a_tape, .int m_taped, .int m_size, .int m_at2_32, .int m_end2_33, .int m_token2_39, .int m_whole2_40, .int m_nameSize2_37, .int m_fault2_35, .int m_place2_38, .int m_trouble, .ref a_letters, .int m_failed2_34, .int m_hasHouse, .ref a_r, .ref a_fresh, .ref a_st, .ref a_undone, .ref a_kept, .int m_undos, .int m_images, .ref a_from, .ref a_begin, .ref a_motor, .ref a_change, .ref a_startFrame, .ref a_changeFrame, .ref a_lostAt, .ref a_blackAt, .ref a_slips, .ref a_leftArc, .ref a_died, .ref a_arcs, .int m_bestSum, .int m_nearest, .int m_nearestTown, .ref a_there, .ref a_backAt, .ref a_sorted, .ref a_parts, .int m_seed1, .int m_darkNow])), (a_tape, .inl (g.2.2.1, 900, .inl d_tape)), (a_letters, .inl (g.2.2.1, 8, .inl d_letters2_36))] [(a_fresh, .inl (g.2.2.1, 311, .inl d_fresh))] [0, 1, 2] [3] (m_must l g h0 sr_47 m_thrown a_tape m_taped m_size m_at2_32 m_end2_33 m_token2_39 m_whole2_40 m_nameSize2_37 m_fault2_35 m_place2_38 m_trouble a_letters m_failed2_34 m_hasHouse a_r a_fresh a_st a_undone a_kept m_undos m_images a_from a_begin a_motor a_change a_startFrame a_changeFrame a_lostAt a_blackAt a_slips a_leftArc a_died a_arcs m_bestSum m_nearest m_nearestTown a_there a_backAt a_sorted a_parts m_seed1 m_darkNow d_tape d_letters2_36 ("by") (iv_w hv_m_size (by decide) (by decide)) (iv_w iv_42 (by decide) (by decide)) (iv_w iv_44 (by decide) (by decide)) (iv_w iv_43 (by decide) (by decide)) hsr_47 hk_46) dX11_markLine_46 mw527 mw528 mw529 mw5 mw530 rfl 11 rfl rfl 0 _ rfl (by unfold yOk; decide) rfl (Nat.le_of_ble_eq_true rfl) (Nat.le_of_ble_eq_true rfl) (Nat.le_of_ble_eq_true rfl) (Nat.le_of_ble_eq_true rfl) (Nat.le_of_ble_eq_true rfl) rfl rfl (by decide) rfl (by decide) (by decide) ?_
      rintro w ⟨m_at2_48, m_end2_49, m_failed2_50, m_fault2_51, d_letters2_52, m_nameSize2_53, m_place2_54, m_token2_55, m_whole2_56, iv_58, iv_59, iv_60, hq_61, hk_62, rfl⟩
      refine k_ws [(a_fresh, .inl (g.2.2.1, 311, .inl d_fresh)), (h0, .inr (11, [.int m_thrown, .ref a_tape, .int m_taped, .int m_size, .int m_at2_48, .int m_end2_49, .int m_token2_55, .int m_whole2_56, .int m_nameSize2_53, .int m_fault2_51, .int m_place2_54, .int m_trouble, .ref a_letters, .int m_failed2_50, .int m_hasHouse, .ref a_r, .ref a_fresh, .ref a_st, .ref a_undone, .ref a_kept, .int m_undos, .int m_images, .ref a_from, .ref a_begin, .ref a_motor, .ref a_change, .ref a_startFrame, .ref a_changeFrame, .ref a_lostAt, .ref a_blackAt, .ref a_slips, .ref a_leftArc, .ref a_died, .ref a_arcs, .int m_bestSum, .int m_nearest, .int m_nearestTown, .ref a_there, .ref a_backAt, .ref a_sorted, .ref a_parts, .int m_seed1, .int m_darkNow])), (a_tape, .inl (g.2.2.1, 900, .inl d_tape)), (a_letters, .inl (g.2.2.1, 8, .inl d_letters2_52))] rfl ?_
      refine k_aload_n X dX11_markLine_49 3 rfl ?_
      refine k_bipush (v := 8) X dX11_markLine_50 (by decide) ?_
      refine k_bipush (v := 11) X dX11_markLine_52 (by decide) ?_
      refine k_callVI (n := 2) (As := [.int 8, .int 11]) (st := []) X [(h0, .inr (11, [.int m_thrown, .ref a_tape, .int m_taped, .int m_size, .int m_at2_48, .int m_end2_49, .int m_token2_55, .int m_whole2_56, .int m_nameSize2_53, .int m_fault2_51, .int m_place2_54, .int m_trouble, .ref a_letters, .int m_failed2_50, .int m_hasHouse, .ref a_r, .ref a_fresh, .ref a_st, .ref a_undone, .ref a_kept, .int m_undos, .int m_images, .ref a_from, .ref a_begin, .ref a_motor, .ref a_change, .ref a_startFrame, .ref a_changeFrame, .ref a_lostAt, .ref a_blackAt, .ref a_slips, .ref a_leftArc, .ref a_died, .ref a_arcs, .int m_bestSum, .int m_nearest, .int m_nearestTown, .ref a_there, .ref a_backAt, .ref a_sorted, .ref a_parts, .int m_seed1, .int m_darkNow])), (a_letters, .inl (g.2.2.1, 8, .inl d_letters2_52)), (a_fresh, .inl (g.2.2.1, 311, .inl d_fresh))] [(a_tape, .inl (g.2.2.1, 900, .inl d_tape))] [1, 3, 0] [2] (m_namedT l g h0 m_thrown a_tape m_taped m_size m_at2_48 m_end2_49 m_token2_55 m_whole2_56 m_nameSize2_53 m_fault2_51 m_place2_54 m_trouble a_letters m_failed2_50 m_hasHouse a_r a_fresh a_st a_undone a_kept m_undos m_images a_from a_begin a_motor a_change a_startFrame a_changeFrame a_lostAt a_blackAt a_slips a_leftArc a_died a_arcs m_bestSum m_nearest m_nearestTown a_there a_backAt a_sorted a_parts m_seed1 m_darkNow d_letters2_52 d_fresh (iv_w iv_60 (by decide) (by decide)) (iv_w iv_59 (by decide) (by decide)) hp_d_fresh hk_62) dX11_markLine_54 mw575 mw576 mw577 mw5 mw578 rfl 11 rfl rfl 0 _ rfl (by unfold yOk; decide) rfl (Nat.le_of_ble_eq_true rfl) (Nat.le_of_ble_eq_true rfl) (Nat.le_of_ble_eq_true rfl) (Nat.le_of_ble_eq_true rfl) (Nat.le_of_ble_eq_true rfl) rfl rfl (by decide) rfl (by decide) (by decide) ?_
      rintro r_66 w ⟨m_failed2_63, m_fault2_64, m_place2_65, iv_67, iv_68, hq_69, rfl⟩
      refine k_ws [(a_tape, .inl (g.2.2.1, 900, .inl d_tape)), (h0, .inr (11, [.int m_thrown, .ref a_tape, .int m_taped, .int m_size, .int m_at2_48, .int m_end2_49, .int m_token2_55, .int m_whole2_56, .int m_nameSize2_53, .int m_fault2_64, .int m_place2_65, .int m_trouble, .ref a_letters, .int m_failed2_63, .int m_hasHouse, .ref a_r, .ref a_fresh, .ref a_st, .ref a_undone, .ref a_kept, .int m_undos, .int m_images, .ref a_from, .ref a_begin, .ref a_motor, .ref a_change, .ref a_startFrame, .ref a_changeFrame, .ref a_lostAt, .ref a_blackAt, .ref a_slips, .ref a_leftArc, .ref a_died, .ref a_arcs, .int m_bestSum, .int m_nearest, .int m_nearestTown, .ref a_there, .ref a_backAt, .ref a_sorted, .ref a_parts, .int m_seed1, .int m_darkNow])), (a_letters, .inl (g.2.2.1, 8, .inl d_letters2_52)), (a_fresh, .inl (g.2.2.1, 311, .inl d_fresh))] rfl ?_
      refine k_istore [(4, .int r_66), (3, .int r_41), (2, .int r_23), (1, .int z_11), (0, .ref h0)] X dX11_markLine_57 (by decide) rfl ?_
      refine k_iconst (v := 0) X dX11_markLine_59 (by decide) ?_
      refine k_istore [(5, .int 0), (4, .int r_66), (3, .int r_41), (2, .int r_23), (1, .int z_11), (0, .ref h0)] X dX11_markLine_60 (by decide) rfl ?_
      refine (fun hL : ∀ (nn_77 : Nat) (u_70 : Int32) (u_72 : Int32) (u_73 : Int32) (u_75 : Int32), (z_5.toInt - u_70.toInt).toNat = nn_77 → (IV u_70 0 255) → (IV u_73 0 1) → (m_failed2_63.toInt ≤ u_73.toInt) → Wk p l e _ s m args below meth c _ A g _ _ _ [(a_tape, .inl (g.2.2.1, 900, .inl d_tape)), (h0, .inr (11, [.int m_thrown, .ref a_tape, .int m_taped, .int m_size, .int m_at2_48, .int m_end2_49, .int m_token2_55, .int m_whole2_56, .int m_nameSize2_53, .int u_75, .int u_72, .int m_trouble, .ref a_letters, .int u_73, .int m_hasHouse, .ref a_r, .ref a_fresh, .ref a_st, .ref a_undone, .ref a_kept, .int m_undos, .int m_images, .ref a_from, .ref a_begin, .ref a_motor, .ref a_change, .ref a_startFrame, .ref a_changeFrame, .ref a_lostAt, .ref a_blackAt, .ref a_slips, .ref a_leftArc, .ref a_died, .ref a_arcs, .int m_bestSum, .int m_nearest, .int m_nearestTown, .ref a_there, .ref a_backAt, .ref a_sorted, .ref a_parts, .int m_seed1, .int m_darkNow])), (a_letters, .inl (g.2.2.1, 8, .inl d_letters2_52)), (a_fresh, .inl (g.2.2.1, 311, .inl d_fresh))] [(5, .int u_70), (4, .int r_66), (3, .int r_41), (2, .int r_23), (1, .int z_11), (0, .ref h0)] 62 [] => hL _ 0 m_place2_65 m_failed2_63 m_fault2_64 rfl (iv_w (show IV 0 0 0 from (by decide)) (by decide) (by decide)) (iv_w iv_67 (by decide) (by decide)) (by omega)) ?_
      refine fun nn_77 => Nat.strongRecOn nn_77 (fun nn_77 ih_79 => ?_)
      intro u_70 u_72 u_73 u_75 hm_78 hv_71 hv_74 hx_76
      refine k_iload X dX11_markLine_62 0 rfl ?_
      refine k_aload_n X dX11_markLine_64 5 rfl ?_
      refine k_get (ci := 11) X inlX11 rfl 16 (by decide) dX11_markLine_65 mw171 1 rfl rfl ?_
      refine k_bipush (v := 8) X dX11_markLine_68 (by decide) ?_
      refine k_iald X dX11_markLine_70 3 rfl (by unfold vp_in; decide) ?_
      refine k_to z_5 ez_5.symm ?_
      refine k_ic_ge 131 X dX11_markLine_71 (by decide) (fun h_80 => ?_) (fun h_80 => ?_)
      · skip
        have j_81 : z_5.toInt ≤ u_70.toInt := iv_le h_80
        refine k_aload_n X dX11_markLine_131 5 rfl ?_
        refine k_get (ci := 11) X inlX11 rfl 13 (by decide) dX11_markLine_132 mw469 1 rfl rfl ?_
        refine k_if_eq 139 X dX11_markLine_135 (by decide) (fun h_82 => ?_) (fun h_82 => ?_)
        · skip
          have iv_83 : IV u_73 0 0 := iv_meet hv_74 (iv_e h_82 (show IV 0 0 0 from (by decide))) (by decide) (by decide)
          refine k_aload_n X dX11_markLine_139 5 rfl ?_
          refine k_callVV (n := 0) (As := []) (st := []) X [(h0, .inr (11, [.int m_thrown, .ref a_tape, .int m_taped, .int m_size, .int m_at2_48, .int m_end2_49, .int m_token2_55, .int m_whole2_56, .int m_nameSize2_53, .int u_75, .int u_72, .int m_trouble, .ref a_letters, .int u_73, .int m_hasHouse, .ref a_r, .ref a_fresh, .ref a_st, .ref a_undone, .ref a_kept, .int m_undos, .int m_images, .ref a_from, .ref a_begin, .ref a_motor, .ref a_change, .ref a_startFrame, .ref a_changeFrame, .ref a_lostAt, .ref a_blackAt, .ref a_slips, .ref a_leftArc, .ref a_died, .ref a_arcs, .int m_bestSum, .int m_nearest, .int m_nearestTown, .ref a_there, .ref a_backAt, .ref a_sorted, .ref a_parts, .int m_seed1, .int m_darkNow])), (a_tape, .inl (g.2.2.1, 900, .inl d_tape)), (a_letters, .inl (g.2.2.1, 8, .inl d_letters2_52))] [(a_fresh, .inl (g.2.2.1, 311, .inl d_fresh))] [1, 0, 2] [3] (m_next l g h0 m_thrown a_tape m_taped m_size m_at2_48 m_end2_49 m_token2_55 m_whole2_56 m_nameSize2_53 u_75 u_72 m_trouble a_letters u_73 m_hasHouse a_r a_fresh a_st a_undone a_kept m_undos m_images a_from a_begin a_motor a_change a_startFrame a_changeFrame a_lostAt a_blackAt a_slips a_leftArc a_died a_arcs m_bestSum m_nearest m_nearestTown a_there a_backAt a_sorted a_parts m_seed1 m_darkNow d_tape d_letters2_52 (iv_w hv_m_size (by decide) (by decide)) (iv_w iv_58 (by decide) (by decide)) (iv_w iv_60 (by decide) (by decide))) dX11_markLine_140 mw489 mw490 mw491 mw5 mw492 rfl 11 rfl rfl 0 _ rfl (by unfold yOk; decide) rfl (Nat.le_of_ble_eq_true rfl) (Nat.le_of_ble_eq_true rfl) (Nat.le_of_ble_eq_true rfl) (Nat.le_of_ble_eq_true rfl) (Nat.le_of_ble_eq_true rfl) rfl rfl (by decide) rfl (by decide) (by decide) ?_
          rintro w ⟨m_at2_84, m_end2_85, d_letters2_86, m_nameSize2_87, m_token2_88, m_whole2_89, iv_91, iv_92, hq_93, hq_94, hk_95, rfl⟩
          refine k_ws [(a_fresh, .inl (g.2.2.1, 311, .inl d_fresh)), (h0, .inr (11, [.int m_thrown, .ref a_tape, .int m_taped, .int m_size, .int m_at2_84, .int m_end2_85, .int m_token2_88, .int m_whole2_89, .int m_nameSize2_87, .int u_75, .int u_72, .int m_trouble, .ref a_letters, .int u_73, .int m_hasHouse, .ref a_r, .ref a_fresh, .ref a_st, .ref a_undone, .ref a_kept, .int m_undos, .int m_images, .ref a_from, .ref a_begin, .ref a_motor, .ref a_change, .ref a_startFrame, .ref a_changeFrame, .ref a_lostAt, .ref a_blackAt, .ref a_slips, .ref a_leftArc, .ref a_died, .ref a_arcs, .int m_bestSum, .int m_nearest, .int m_nearestTown, .ref a_there, .ref a_backAt, .ref a_sorted, .ref a_parts, .int m_seed1, .int m_darkNow])), (a_tape, .inl (g.2.2.1, 900, .inl d_tape)), (a_letters, .inl (g.2.2.1, 8, .inl d_letters2_86))] rfl ?_
          refine k_aload_n X dX11_markLine_143 5 rfl ?_
          refine k_get (ci := 11) X inlX11 rfl 16 (by decide) dX11_markLine_144 mw171 1 rfl rfl ?_
          refine k_iload_n X dX11_markLine_147 4 rfl ?_
          refine k_iload_n X dX11_markLine_148 3 rfl ?_
          refine k_iast [(a_fresh, .inl (g.2.2.1, 311, .inl (upd d_fresh (z_11 : Int32).toNatClampNeg r_23))), (h0, .inr (11, [.int m_thrown, .ref a_tape, .int m_taped, .int m_size, .int m_at2_84, .int m_end2_85, .int m_token2_88, .int m_whole2_89, .int m_nameSize2_87, .int u_75, .int u_72, .int m_trouble, .ref a_letters, .int u_73, .int m_hasHouse, .ref a_r, .ref a_fresh, .ref a_st, .ref a_undone, .ref a_kept, .int m_undos, .int m_images, .ref a_from, .ref a_begin, .ref a_motor, .ref a_change, .ref a_startFrame, .ref a_changeFrame, .ref a_lostAt, .ref a_blackAt, .ref a_slips, .ref a_leftArc, .ref a_died, .ref a_arcs, .int m_bestSum, .int m_nearest, .int m_nearestTown, .ref a_there, .ref a_backAt, .ref a_sorted, .ref a_parts, .int m_seed1, .int m_darkNow])), (a_tape, .inl (g.2.2.1, 900, .inl d_tape)), (a_letters, .inl (g.2.2.1, 8, .inl d_letters2_86))] X dX11_markLine_149 0 rfl (iv_in iv_13 (by decide) (by decide)) rfl ?_
          have i_98 : z_11.toInt = 44 + 3 * z_5.toInt := by omega
          refine (fun hg : ∀ fa_96 : Nat → Int32, fa_96 = upd d_fresh (z_11 : Int32).toNatClampNeg r_23 → RInv fa_96 → K16 d_fresh fa_96 → Wk p l e _ s m args below meth c _ A g _ _ _ [(a_fresh, .inl (g.2.2.1, 311, .inl fa_96)), (h0, .inr (11, [.int m_thrown, .ref a_tape, .int m_taped, .int m_size, .int m_at2_84, .int m_end2_85, .int m_token2_88, .int m_whole2_89, .int m_nameSize2_87, .int u_75, .int u_72, .int m_trouble, .ref a_letters, .int u_73, .int m_hasHouse, .ref a_r, .ref a_fresh, .ref a_st, .ref a_undone, .ref a_kept, .int m_undos, .int m_images, .ref a_from, .ref a_begin, .ref a_motor, .ref a_change, .ref a_startFrame, .ref a_changeFrame, .ref a_lostAt, .ref a_blackAt, .ref a_slips, .ref a_leftArc, .ref a_died, .ref a_arcs, .int m_bestSum, .int m_nearest, .int m_nearestTown, .ref a_there, .ref a_backAt, .ref a_sorted, .ref a_parts, .int m_seed1, .int m_darkNow])), (a_tape, .inl (g.2.2.1, 900, .inl d_tape)), (a_letters, .inl (g.2.2.1, 8, .inl d_letters2_86))] _ _ _ => hg _ rfl (w_rb_44_3 hp_d_fresh i_98 (iv_w iv_7 (by decide) (by decide)) (iv_w iv_27 (by decide) (by decide))) (k16_u (z := z_11) (by have := iv_13; omega))) (fun fa_96 eq_100 hR_97 hk_99 => ?_)
          have ek_101 : z_5 = fa_96 (8 : Int32).toNatClampNeg := ez_5.trans (hk_99 _ (by decide)).symm
          have hT_102 : TRI fa_96 := by have := iv_13; exact tri_z (z := z_11) eq_100 hr_0 hp_d_fresh (by omega) (by omega) (by omega) (by omega) (by omega)
          refine k_aload_n X dX11_markLine_150 5 rfl ?_
          refine k_get (ci := 11) X inlX11 rfl 16 (by decide) dX11_markLine_151 mw171 1 rfl rfl ?_
          refine k_iload_n X dX11_markLine_154 4 rfl ?_
          refine k_iconst (v := 1) X dX11_markLine_155 (by decide) ?_
          refine k_iadd X dX11_markLine_156 ?_
          refine k_nm (fun z_103 ez_103 => ?_)
          have i_104 : z_103.toInt = z_11.toInt + 1 := in_add ez_103 iv_13 (show IV 1 1 1 from (by decide)) (by decide) (by decide)
          have iv_105 : IV z_103 45 78 := by have := iv_13; have := (show IV 1 1 1 from (by decide)); rw [IV, i_104]; omega
          refine k_iload_n X dX11_markLine_157 2 rfl ?_
          refine k_iast [(a_fresh, .inl (g.2.2.1, 311, .inl (upd fa_96 (z_103 : Int32).toNatClampNeg r_41))), (h0, .inr (11, [.int m_thrown, .ref a_tape, .int m_taped, .int m_size, .int m_at2_84, .int m_end2_85, .int m_token2_88, .int m_whole2_89, .int m_nameSize2_87, .int u_75, .int u_72, .int m_trouble, .ref a_letters, .int u_73, .int m_hasHouse, .ref a_r, .ref a_fresh, .ref a_st, .ref a_undone, .ref a_kept, .int m_undos, .int m_images, .ref a_from, .ref a_begin, .ref a_motor, .ref a_change, .ref a_startFrame, .ref a_changeFrame, .ref a_lostAt, .ref a_blackAt, .ref a_slips, .ref a_leftArc, .ref a_died, .ref a_arcs, .int m_bestSum, .int m_nearest, .int m_nearestTown, .ref a_there, .ref a_backAt, .ref a_sorted, .ref a_parts, .int m_seed1, .int m_darkNow])), (a_tape, .inl (g.2.2.1, 900, .inl d_tape)), (a_letters, .inl (g.2.2.1, 8, .inl d_letters2_86))] X dX11_markLine_158 0 rfl (iv_in iv_105 (by decide) (by decide)) rfl ?_
          have i_108 : z_103.toInt = 45 + 3 * z_5.toInt := by omega
          refine (fun hg : ∀ fa_106 : Nat → Int32, fa_106 = upd fa_96 (z_103 : Int32).toNatClampNeg r_41 → RInv fa_106 → K16 fa_96 fa_106 → Wk p l e _ s m args below meth c _ A g _ _ _ [(a_fresh, .inl (g.2.2.1, 311, .inl fa_106)), (h0, .inr (11, [.int m_thrown, .ref a_tape, .int m_taped, .int m_size, .int m_at2_84, .int m_end2_85, .int m_token2_88, .int m_whole2_89, .int m_nameSize2_87, .int u_75, .int u_72, .int m_trouble, .ref a_letters, .int u_73, .int m_hasHouse, .ref a_r, .ref a_fresh, .ref a_st, .ref a_undone, .ref a_kept, .int m_undos, .int m_images, .ref a_from, .ref a_begin, .ref a_motor, .ref a_change, .ref a_startFrame, .ref a_changeFrame, .ref a_lostAt, .ref a_blackAt, .ref a_slips, .ref a_leftArc, .ref a_died, .ref a_arcs, .int m_bestSum, .int m_nearest, .int m_nearestTown, .ref a_there, .ref a_backAt, .ref a_sorted, .ref a_parts, .int m_seed1, .int m_darkNow])), (a_tape, .inl (g.2.2.1, 900, .inl d_tape)), (a_letters, .inl (g.2.2.1, 8, .inl d_letters2_86))] _ _ _ => hg _ rfl (w_fr_45_3 hR_97 i_108 (iv_w iv_7 (by decide) (by decide))) (k16_u (z := z_103) (by have := iv_105; omega))) (fun fa_106 eq_110 hR_107 hk_109 => ?_)
          have ek_111 : z_5 = fa_106 (8 : Int32).toNatClampNeg := ek_101.trans (hk_109 _ (by decide)).symm
          have hT_112 : TRI fa_106 := by have := iv_105; exact tri_z (z := z_103) eq_110 hT_102 hR_97 (by omega) (by omega) (by omega) (by omega) (by omega)
          refine k_aload_n X dX11_markLine_159 5 rfl ?_
          refine k_get (ci := 11) X inlX11 rfl 16 (by decide) dX11_markLine_160 mw171 1 rfl rfl ?_
          refine k_iload_n X dX11_markLine_163 4 rfl ?_
          refine k_iconst (v := 2) X dX11_markLine_164 (by decide) ?_
          refine k_iadd X dX11_markLine_165 ?_
          refine k_nm (fun z_113 ez_113 => ?_)
          have i_114 : z_113.toInt = z_11.toInt + 2 := in_add ez_113 iv_13 (show IV 2 2 2 from (by decide)) (by decide) (by decide)
          have iv_115 : IV z_113 46 79 := by have := iv_13; have := (show IV 2 2 2 from (by decide)); rw [IV, i_114]; omega
          refine k_iload X dX11_markLine_166 1 rfl ?_
          refine k_iast [(a_fresh, .inl (g.2.2.1, 311, .inl (upd fa_106 (z_113 : Int32).toNatClampNeg r_66))), (h0, .inr (11, [.int m_thrown, .ref a_tape, .int m_taped, .int m_size, .int m_at2_84, .int m_end2_85, .int m_token2_88, .int m_whole2_89, .int m_nameSize2_87, .int u_75, .int u_72, .int m_trouble, .ref a_letters, .int u_73, .int m_hasHouse, .ref a_r, .ref a_fresh, .ref a_st, .ref a_undone, .ref a_kept, .int m_undos, .int m_images, .ref a_from, .ref a_begin, .ref a_motor, .ref a_change, .ref a_startFrame, .ref a_changeFrame, .ref a_lostAt, .ref a_blackAt, .ref a_slips, .ref a_leftArc, .ref a_died, .ref a_arcs, .int m_bestSum, .int m_nearest, .int m_nearestTown, .ref a_there, .ref a_backAt, .ref a_sorted, .ref a_parts, .int m_seed1, .int m_darkNow])), (a_tape, .inl (g.2.2.1, 900, .inl d_tape)), (a_letters, .inl (g.2.2.1, 8, .inl d_letters2_86))] X dX11_markLine_168 0 rfl (iv_in iv_115 (by decide) (by decide)) rfl ?_
          have i_118 : z_113.toInt = 46 + 3 * z_5.toInt := by omega
          refine (fun hg : ∀ fa_116 : Nat → Int32, fa_116 = upd fa_106 (z_113 : Int32).toNatClampNeg r_66 → RInv fa_116 → K16 fa_106 fa_116 → Wk p l e _ s m args below meth c _ A g _ _ _ [(a_fresh, .inl (g.2.2.1, 311, .inl fa_116)), (h0, .inr (11, [.int m_thrown, .ref a_tape, .int m_taped, .int m_size, .int m_at2_84, .int m_end2_85, .int m_token2_88, .int m_whole2_89, .int m_nameSize2_87, .int u_75, .int u_72, .int m_trouble, .ref a_letters, .int u_73, .int m_hasHouse, .ref a_r, .ref a_fresh, .ref a_st, .ref a_undone, .ref a_kept, .int m_undos, .int m_images, .ref a_from, .ref a_begin, .ref a_motor, .ref a_change, .ref a_startFrame, .ref a_changeFrame, .ref a_lostAt, .ref a_blackAt, .ref a_slips, .ref a_leftArc, .ref a_died, .ref a_arcs, .int m_bestSum, .int m_nearest, .int m_nearestTown, .ref a_there, .ref a_backAt, .ref a_sorted, .ref a_parts, .int m_seed1, .int m_darkNow])), (a_tape, .inl (g.2.2.1, 900, .inl d_tape)), (a_letters, .inl (g.2.2.1, 8, .inl d_letters2_86))] _ _ _ => hg _ rfl (w_rb_46_3 hR_107 i_118 (iv_w iv_7 (by decide) (by decide)) (iv_w iv_68 (by decide) (by decide))) (k16_u (z := z_113) (by have := iv_115; omega))) (fun fa_116 eq_120 hR_117 hk_119 => ?_)
          have ek_121 : z_5 = fa_116 (8 : Int32).toNatClampNeg := ek_111.trans (hk_119 _ (by decide)).symm
          refine k_aload_n X dX11_markLine_169 5 rfl ?_
          refine k_get (ci := 11) X inlX11 rfl 16 (by decide) dX11_markLine_170 mw171 1 rfl rfl ?_
          refine k_bipush (v := 8) X dX11_markLine_173 (by decide) ?_
          refine k_dup2 X dX11_markLine_175 rfl rfl ?_
          refine k_iald X dX11_markLine_176 0 rfl (by unfold vp_in; decide) ?_
          refine k_to z_5 ek_121.symm ?_
          refine k_iconst (v := 1) X dX11_markLine_177 (by decide) ?_
          refine k_iadd X dX11_markLine_178 ?_
          refine k_nm (fun z_123 ez_123 => ?_)
          have i_124 : z_123.toInt = z_5.toInt + 1 := in_add ez_123 iv_7 (show IV 1 1 1 from (by decide)) (by decide) (by decide)
          have iv_125 : IV z_123 1 12 := by have := iv_7; have := (show IV 1 1 1 from (by decide)); rw [IV, i_124]; omega
          refine k_iast [(a_fresh, .inl (g.2.2.1, 311, .inl (upd fa_116 (8 : Int32).toNatClampNeg z_123))), (h0, .inr (11, [.int m_thrown, .ref a_tape, .int m_taped, .int m_size, .int m_at2_84, .int m_end2_85, .int m_token2_88, .int m_whole2_89, .int m_nameSize2_87, .int u_75, .int u_72, .int m_trouble, .ref a_letters, .int u_73, .int m_hasHouse, .ref a_r, .ref a_fresh, .ref a_st, .ref a_undone, .ref a_kept, .int m_undos, .int m_images, .ref a_from, .ref a_begin, .ref a_motor, .ref a_change, .ref a_startFrame, .ref a_changeFrame, .ref a_lostAt, .ref a_blackAt, .ref a_slips, .ref a_leftArc, .ref a_died, .ref a_arcs, .int m_bestSum, .int m_nearest, .int m_nearestTown, .ref a_there, .ref a_backAt, .ref a_sorted, .ref a_parts, .int m_seed1, .int m_darkNow])), (a_tape, .inl (g.2.2.1, 900, .inl d_tape)), (a_letters, .inl (g.2.2.1, 8, .inl d_letters2_86))] X dX11_markLine_179 0 rfl (by unfold vp_in; decide) rfl ?_
          refine (fun hg : ∀ fa_126 : Nat → Int32, fa_126 = upd fa_116 (8 : Int32).toNatClampNeg z_123 → RInv fa_126 → Wk p l e _ s m args below meth c _ A g _ _ _ [(a_fresh, .inl (g.2.2.1, 311, .inl fa_126)), (h0, .inr (11, [.int m_thrown, .ref a_tape, .int m_taped, .int m_size, .int m_at2_84, .int m_end2_85, .int m_token2_88, .int m_whole2_89, .int m_nameSize2_87, .int u_75, .int u_72, .int m_trouble, .ref a_letters, .int u_73, .int m_hasHouse, .ref a_r, .ref a_fresh, .ref a_st, .ref a_undone, .ref a_kept, .int m_undos, .int m_images, .ref a_from, .ref a_begin, .ref a_motor, .ref a_change, .ref a_startFrame, .ref a_changeFrame, .ref a_lostAt, .ref a_blackAt, .ref a_slips, .ref a_leftArc, .ref a_died, .ref a_arcs, .int m_bestSum, .int m_nearest, .int m_nearestTown, .ref a_there, .ref a_backAt, .ref a_sorted, .ref a_parts, .int m_seed1, .int m_darkNow])), (a_tape, .inl (g.2.2.1, 900, .inl d_tape)), (a_letters, .inl (g.2.2.1, 8, .inl d_letters2_86))] _ _ _ => hg _ rfl (w_rb_8 hR_117 (iv_w iv_125 (by decide) (by decide)))) (fun fa_126 eq_129 hR_127 => ?_)
          have hT_130 : TRI fa_126 := tri_mark (v := z_5) hr_0 hp_d_fresh eq_100 eq_110 eq_120 eq_129 (by omega) (by omega) (by omega) (by omega) (by omega) (iv_w iv_7 (by decide) (by decide)) (iv_w iv_68 (by decide) (by decide)) (hq_69.resolve_left (by omega))
          exact k_vret X hr dX11_markLine_180 (Nat.le_of_ble_eq_true rfl) (Nat.le_of_ble_eq_true rfl) [1, 2, 3, 0] (by decide) rfl rfl ⟨m_at2_84, m_end2_85, u_73, u_75, fa_126, d_letters2_86, m_nameSize2_87, u_72, m_token2_88, m_whole2_89, (iv_w iv_91 (by decide) (by decide)), (iv_w iv_83 (by decide) (by decide)), (iv_w iv_92 (by decide) (by decide)), hR_127, (by omega), hT_130, hk_95, rfl⟩
        · skip
          have iv_131 : IV u_73 1 1 := iv_neL h_82 hv_74 (show IV 0 0 0 from (by decide)) (by decide)
          exact k_vret X hr dX11_markLine_138 (Nat.le_of_ble_eq_true rfl) (Nat.le_of_ble_eq_true rfl) [1, 0, 2, 3] (by decide) rfl rfl ⟨m_at2_48, m_end2_49, u_73, u_75, d_fresh, d_letters2_52, m_nameSize2_53, u_72, m_token2_55, m_whole2_56, (iv_w iv_58 (by decide) (by decide)), (iv_w iv_131 (by decide) (by decide)), (iv_w iv_60 (by decide) (by decide)), hp_d_fresh, (by omega), hr_0, hk_62, rfl⟩
      · skip
        have j_132 : u_70.toInt < z_5.toInt := iv_nle h_80
        have iv_133 : IV u_70 0 10 := iv_ltL (iv_nle h_80) hv_71 iv_7 (by decide)
        have iv_134 : IV z_5 1 11 := iv_ltR (iv_nle h_80) hv_71 iv_7 (by decide)
        refine k_aload_n X dX11_markLine_74 5 rfl ?_
        refine k_get (ci := 11) X inlX11 rfl 13 (by decide) dX11_markLine_75 mw469 1 rfl rfl ?_
        refine k_if_ne 125 X dX11_markLine_78 (by decide) (fun h_135 => ?_) (fun h_135 => ?_)
        · skip
          have iv_136 : IV u_73 1 1 := iv_neL h_135 hv_74 (show IV 0 0 0 from (by decide)) (by decide)
          obtain ⟨z_137, ez_137⟩ : ∃ y : Int32, u_70 + Int32.ofInt 1 = y := ⟨_, rfl⟩
          refine k_iinc z_137 [(5, .int z_137), (4, .int r_66), (3, .int r_41), (2, .int r_23), (1, .int z_11), (0, .ref h0)] 0 X dX11_markLine_125 rfl ez_137 (by decide) rfl ?_
          have i_138 : z_137.toInt = u_70.toInt + 1 := in_inc ez_137 (by decide) iv_133 (by decide) (by decide)
          have iv_139 : IV z_137 1 11 := by have := iv_133; rw [IV, i_138]; omega
          refine k_goto 62 X dX11_markLine_128 (by decide) ?_
          exact ih_79 _ (by omega) z_137 u_72 u_73 u_75 rfl (iv_w iv_139 (by decide) (by decide)) (iv_w iv_136 (by decide) (by decide)) (by omega)
        · skip
          have iv_140 : IV u_73 0 0 := iv_meet hv_74 (iv_e h_135 (show IV 0 0 0 from (by decide))) (by decide) (by decide)
          refine k_aload_n X dX11_markLine_81 5 rfl ?_
          refine k_get (ci := 11) X inlX11 rfl 16 (by decide) dX11_markLine_82 mw171 1 rfl rfl ?_
          refine k_bipush (v := 44) X dX11_markLine_85 (by decide) ?_
          refine k_iconst (v := 3) X dX11_markLine_87 (by decide) ?_
          refine k_iload X dX11_markLine_88 0 rfl ?_
          refine k_imul X dX11_markLine_90 ?_
          refine k_nm (fun z_141 ez_141 => ?_)
          have i_142 : z_141.toInt = 3 * u_70.toInt := in_mul ez_141 (by decide) (by decide) iv_133 (by decide) (by decide)
          have iv_143 : IV z_141 0 30 := by have := (show IV 3 3 3 from (by decide)); have := iv_133; rw [IV, i_142]; omega
          refine k_iadd X dX11_markLine_91 ?_
          refine k_nm (fun z_144 ez_144 => ?_)
          have i_145 : z_144.toInt = 44 + z_141.toInt := in_add ez_144 (show IV 44 44 44 from (by decide)) iv_143 (by decide) (by decide)
          have iv_146 : IV z_144 44 74 := by have := (show IV 44 44 44 from (by decide)); have := iv_143; rw [IV, i_145]; omega
          refine k_iald X dX11_markLine_92 3 rfl (iv_in iv_146 (by decide) (by decide)) ?_
          refine k_nm (fun z_147 ez_147 => ?_)
          have i_148 : z_144.toInt = 44 + 3 * u_70.toInt := by omega
          have iv_149 : IV z_147 0 7 := rb_44_3 ez_147 hp_d_fresh i_148 (iv_w iv_133 (by decide) (by decide))
          refine k_iload_n X dX11_markLine_93 3 rfl ?_
          refine k_ic_ne 125 X dX11_markLine_94 (by decide) (fun h_150 => ?_) (fun h_150 => ?_)
          · skip
            obtain ⟨z_151, ez_151⟩ : ∃ y : Int32, u_70 + Int32.ofInt 1 = y := ⟨_, rfl⟩
            refine k_iinc z_151 [(5, .int z_151), (4, .int r_66), (3, .int r_41), (2, .int r_23), (1, .int z_11), (0, .ref h0)] 0 X dX11_markLine_125 rfl ez_151 (by decide) rfl ?_
            have i_152 : z_151.toInt = u_70.toInt + 1 := in_inc ez_151 (by decide) iv_133 (by decide) (by decide)
            have iv_153 : IV z_151 1 11 := by have := iv_133; rw [IV, i_152]; omega
            refine k_goto 62 X dX11_markLine_128 (by decide) ?_
            exact ih_79 _ (by omega) z_151 u_72 u_73 u_75 rfl (iv_w iv_153 (by decide) (by decide)) (iv_w iv_140 (by decide) (by decide)) (by omega)
          · skip
            refine k_aload_n X dX11_markLine_97 5 rfl ?_
            refine k_get (ci := 11) X inlX11 rfl 16 (by decide) dX11_markLine_98 mw171 1 rfl rfl ?_
            refine k_bipush (v := 44) X dX11_markLine_101 (by decide) ?_
            refine k_iconst (v := 3) X dX11_markLine_103 (by decide) ?_
            refine k_iload X dX11_markLine_104 0 rfl ?_
            refine k_imul X dX11_markLine_106 ?_
            refine k_to z_141 ez_141.symm ?_
            refine k_iadd X dX11_markLine_107 ?_
            refine k_to z_144 ez_144.symm ?_
            refine k_iconst (v := 2) X dX11_markLine_108 (by decide) ?_
            refine k_iadd X dX11_markLine_109 ?_
            refine k_nm (fun z_154 ez_154 => ?_)
            have i_155 : z_154.toInt = z_144.toInt + 2 := in_add ez_154 iv_146 (show IV 2 2 2 from (by decide)) (by decide) (by decide)
            have iv_156 : IV z_154 46 76 := by have := iv_146; have := (show IV 2 2 2 from (by decide)); rw [IV, i_155]; omega
            refine k_iald X dX11_markLine_110 3 rfl (iv_in iv_156 (by decide) (by decide)) ?_
            refine k_nm (fun z_157 ez_157 => ?_)
            have i_158 : z_154.toInt = 46 + 3 * u_70.toInt := by omega
            have iv_159 : IV z_157 0 3 := rb_46_3 ez_157 hp_d_fresh i_158 (iv_w iv_133 (by decide) (by decide))
            refine k_iload X dX11_markLine_111 1 rfl ?_
            refine k_ic_ne 125 X dX11_markLine_113 (by decide) (fun h_160 => ?_) (fun h_160 => ?_)
            · skip
              obtain ⟨z_161, ez_161⟩ : ∃ y : Int32, u_70 + Int32.ofInt 1 = y := ⟨_, rfl⟩
              refine k_iinc z_161 [(5, .int z_161), (4, .int r_66), (3, .int r_41), (2, .int r_23), (1, .int z_11), (0, .ref h0)] 0 X dX11_markLine_125 rfl ez_161 (by decide) rfl ?_
              have i_162 : z_161.toInt = u_70.toInt + 1 := in_inc ez_161 (by decide) iv_133 (by decide) (by decide)
              have iv_163 : IV z_161 1 11 := by have := iv_133; rw [IV, i_162]; omega
              refine k_goto 62 X dX11_markLine_128 (by decide) ?_
              exact ih_79 _ (by omega) z_161 u_72 u_73 u_75 rfl (iv_w iv_163 (by decide) (by decide)) (iv_w iv_140 (by decide) (by decide)) (by omega)
            · skip
              refine k_aload_n X dX11_markLine_116 5 rfl ?_
              refine k_iconst (v := 3) X dX11_markLine_117 (by decide) ?_
              refine k_aload_n X dX11_markLine_118 5 rfl ?_
              refine k_get (ci := 11) X inlX11 rfl 4 (by decide) dX11_markLine_119 mw473 1 rfl rfl ?_
              refine k_callVV (n := 2) (As := [.int 3, .int m_at2_48]) (st := []) X [(h0, .inr (11, [.int m_thrown, .ref a_tape, .int m_taped, .int m_size, .int m_at2_48, .int m_end2_49, .int m_token2_55, .int m_whole2_56, .int m_nameSize2_53, .int u_75, .int u_72, .int m_trouble, .ref a_letters, .int u_73, .int m_hasHouse, .ref a_r, .ref a_fresh, .ref a_st, .ref a_undone, .ref a_kept, .int m_undos, .int m_images, .ref a_from, .ref a_begin, .ref a_motor, .ref a_change, .ref a_startFrame, .ref a_changeFrame, .ref a_lostAt, .ref a_blackAt, .ref a_slips, .ref a_leftArc, .ref a_died, .ref a_arcs, .int m_bestSum, .int m_nearest, .int m_nearestTown, .ref a_there, .ref a_backAt, .ref a_sorted, .ref a_parts, .int m_seed1, .int m_darkNow]))] [(a_tape, .inl (g.2.2.1, 900, .inl d_tape)), (a_letters, .inl (g.2.2.1, 8, .inl d_letters2_52)), (a_fresh, .inl (g.2.2.1, 311, .inl d_fresh))] [1] [0, 2, 3] (m_bad l g h0 3 m_at2_48 m_thrown a_tape m_taped m_size m_at2_48 m_end2_49 m_token2_55 m_whole2_56 m_nameSize2_53 u_75 u_72 m_trouble a_letters u_73 m_hasHouse a_r a_fresh a_st a_undone a_kept m_undos m_images a_from a_begin a_motor a_change a_startFrame a_changeFrame a_lostAt a_blackAt a_slips a_leftArc a_died a_arcs m_bestSum m_nearest m_nearestTown a_there a_backAt a_sorted a_parts m_seed1 m_darkNow (iv_w iv_140 (by decide) (by decide))) dX11_markLine_122 mw519 mw520 mw521 mw5 mw522 rfl 11 rfl rfl 0 _ rfl (by unfold yOk; decide) rfl (Nat.le_of_ble_eq_true rfl) (Nat.le_of_ble_eq_true rfl) (Nat.le_of_ble_eq_true rfl) (Nat.le_of_ble_eq_true rfl) (Nat.le_of_ble_eq_true rfl) rfl rfl (by decide) rfl (by decide) (by decide) ?_
              rintro w ⟨m_failed2_164, m_fault2_165, m_place2_166, iv_168, rfl⟩
              refine k_ws [(a_tape, .inl (g.2.2.1, 900, .inl d_tape)), (a_letters, .inl (g.2.2.1, 8, .inl d_letters2_52)), (a_fresh, .inl (g.2.2.1, 311, .inl d_fresh)), (h0, .inr (11, [.int m_thrown, .ref a_tape, .int m_taped, .int m_size, .int m_at2_48, .int m_end2_49, .int m_token2_55, .int m_whole2_56, .int m_nameSize2_53, .int m_fault2_165, .int m_place2_166, .int m_trouble, .ref a_letters, .int m_failed2_164, .int m_hasHouse, .ref a_r, .ref a_fresh, .ref a_st, .ref a_undone, .ref a_kept, .int m_undos, .int m_images, .ref a_from, .ref a_begin, .ref a_motor, .ref a_change, .ref a_startFrame, .ref a_changeFrame, .ref a_lostAt, .ref a_blackAt, .ref a_slips, .ref a_leftArc, .ref a_died, .ref a_arcs, .int m_bestSum, .int m_nearest, .int m_nearestTown, .ref a_there, .ref a_backAt, .ref a_sorted, .ref a_parts, .int m_seed1, .int m_darkNow]))] rfl ?_
              obtain ⟨z_169, ez_169⟩ : ∃ y : Int32, u_70 + Int32.ofInt 1 = y := ⟨_, rfl⟩
              refine k_iinc z_169 [(5, .int z_169), (4, .int r_66), (3, .int r_41), (2, .int r_23), (1, .int z_11), (0, .ref h0)] 0 X dX11_markLine_125 rfl ez_169 (by decide) rfl ?_
              have i_170 : z_169.toInt = u_70.toInt + 1 := in_inc ez_169 (by decide) iv_133 (by decide) (by decide)
              have iv_171 : IV z_169 1 11 := by have := iv_133; rw [IV, i_170]; omega
              refine k_goto 62 X dX11_markLine_128 (by decide) ?_
              refine k_sub [(a_tape, .inl (g.2.2.1, 900, .inl d_tape)), (h0, .inr (11, [.int m_thrown, .ref a_tape, .int m_taped, .int m_size, .int m_at2_48, .int m_end2_49, .int m_token2_55, .int m_whole2_56, .int m_nameSize2_53, .int m_fault2_165, .int m_place2_166, .int m_trouble, .ref a_letters, .int m_failed2_164, .int m_hasHouse, .ref a_r, .ref a_fresh, .ref a_st, .ref a_undone, .ref a_kept, .int m_undos, .int m_images, .ref a_from, .ref a_begin, .ref a_motor, .ref a_change, .ref a_startFrame, .ref a_changeFrame, .ref a_lostAt, .ref a_blackAt, .ref a_slips, .ref a_leftArc, .ref a_died, .ref a_arcs, .int m_bestSum, .int m_nearest, .int m_nearestTown, .ref a_there, .ref a_backAt, .ref a_sorted, .ref a_parts, .int m_seed1, .int m_darkNow])), (a_letters, .inl (g.2.2.1, 8, .inl d_letters2_52)), (a_fresh, .inl (g.2.2.1, 311, .inl d_fresh))] [0, 3, 1, 2] rfl (by decide) rfl ?_
              exact ih_79 _ (by omega) z_169 m_place2_166 m_failed2_164 m_fault2_165 rfl (iv_w iv_171 (by decide) (by decide)) (iv_w iv_168 (by decide) (by decide)) (by omega)
    · skip
      have iv_172 : IV m_failed2_16 1 1 := iv_neL h_30 iv_25 (show IV 0 0 0 from (by decide)) (by decide)
      refine k_iconst (v := 0) X dX11_markLine_33 (by decide) ?_
      refine k_goto 42 X dX11_markLine_34 (by decide) ?_
      refine k_istore_n [(3, .int 0), (2, .int r_23), (1, .int z_11), (0, .ref h0)] X dX11_markLine_42 (by decide) rfl ?_
      refine k_aload_n X dX11_markLine_43 3 rfl ?_
      refine k_ldcS (tx := "by") X dX11_markLine_44 (by decide +kernel) (fun sr_173 hsr_173 => ?_)
      refine k_callVV (n := 1) (As := [.ref sr_173]) (st := []) X [(h0, .inr (11, [.int m_thrown, .ref a_tape, .int m_taped, .int m_size, .int m_at2_14, .int m_end2_15, .int m_token2_21, .int m_whole2_22, .int m_nameSize2_19, .int m_fault2_17, .int m_place2_20, .int m_trouble, .ref a_letters, .int m_failed2_16, .int m_hasHouse, .ref a_r, .ref a_fresh, .ref a_st, .ref a_undone, .ref a_kept, .int m_undos, .int m_images, .ref a_from, .ref a_begin, .ref a_motor, .ref a_change, .ref a_startFrame, .ref a_changeFrame, .ref a_lostAt, .ref a_blackAt, .ref a_slips, .ref a_leftArc, .ref a_died, .ref a_arcs, .int m_bestSum, .int m_nearest, .int m_nearestTown, .ref a_there, .ref a_backAt, .ref a_sorted, .ref a_parts, .int m_seed1, .int m_darkNow])), (a_tape, .inl (g.2.2.1, 900, .inl d_tape)), (a_letters, .inl (g.2.2.1, 8, .inl d_letters2_18))] [(a_fresh, .inl (g.2.2.1, 311, .inl d_fresh))] [0, 1, 2] [3] (m_must l g h0 sr_173 m_thrown a_tape m_taped m_size m_at2_14 m_end2_15 m_token2_21 m_whole2_22 m_nameSize2_19 m_fault2_17 m_place2_20 m_trouble a_letters m_failed2_16 m_hasHouse a_r a_fresh a_st a_undone a_kept m_undos m_images a_from a_begin a_motor a_change a_startFrame a_changeFrame a_lostAt a_blackAt a_slips a_leftArc a_died a_arcs m_bestSum m_nearest m_nearestTown a_there a_backAt a_sorted a_parts m_seed1 m_darkNow d_tape d_letters2_18 ("by") (iv_w hv_m_size (by decide) (by decide)) (iv_w iv_24 (by decide) (by decide)) (iv_w iv_26 (by decide) (by decide)) (iv_w iv_172 (by decide) (by decide)) hsr_173 hk_29) dX11_markLine_46 mw527 mw528 mw529 mw5 mw530 rfl 11 rfl rfl 0 _ rfl (by unfold yOk; decide) rfl (Nat.le_of_ble_eq_true rfl) (Nat.le_of_ble_eq_true rfl) (Nat.le_of_ble_eq_true rfl) (Nat.le_of_ble_eq_true rfl) (Nat.le_of_ble_eq_true rfl) rfl rfl (by decide) rfl (by decide) (by decide) ?_
      rintro w ⟨m_at2_174, m_end2_175, m_failed2_176, m_fault2_177, d_letters2_178, m_nameSize2_179, m_place2_180, m_token2_181, m_whole2_182, iv_184, iv_185, iv_186, hq_187, hk_188, rfl⟩
      refine k_ws [(a_fresh, .inl (g.2.2.1, 311, .inl d_fresh)), (h0, .inr (11, [.int m_thrown, .ref a_tape, .int m_taped, .int m_size, .int m_at2_174, .int m_end2_175, .int m_token2_181, .int m_whole2_182, .int m_nameSize2_179, .int m_fault2_177, .int m_place2_180, .int m_trouble, .ref a_letters, .int m_failed2_176, .int m_hasHouse, .ref a_r, .ref a_fresh, .ref a_st, .ref a_undone, .ref a_kept, .int m_undos, .int m_images, .ref a_from, .ref a_begin, .ref a_motor, .ref a_change, .ref a_startFrame, .ref a_changeFrame, .ref a_lostAt, .ref a_blackAt, .ref a_slips, .ref a_leftArc, .ref a_died, .ref a_arcs, .int m_bestSum, .int m_nearest, .int m_nearestTown, .ref a_there, .ref a_backAt, .ref a_sorted, .ref a_parts, .int m_seed1, .int m_darkNow])), (a_tape, .inl (g.2.2.1, 900, .inl d_tape)), (a_letters, .inl (g.2.2.1, 8, .inl d_letters2_178))] rfl ?_
      refine k_aload_n X dX11_markLine_49 3 rfl ?_
      refine k_bipush (v := 8) X dX11_markLine_50 (by decide) ?_
      refine k_bipush (v := 11) X dX11_markLine_52 (by decide) ?_
      refine k_callVI (n := 2) (As := [.int 8, .int 11]) (st := []) X [(h0, .inr (11, [.int m_thrown, .ref a_tape, .int m_taped, .int m_size, .int m_at2_174, .int m_end2_175, .int m_token2_181, .int m_whole2_182, .int m_nameSize2_179, .int m_fault2_177, .int m_place2_180, .int m_trouble, .ref a_letters, .int m_failed2_176, .int m_hasHouse, .ref a_r, .ref a_fresh, .ref a_st, .ref a_undone, .ref a_kept, .int m_undos, .int m_images, .ref a_from, .ref a_begin, .ref a_motor, .ref a_change, .ref a_startFrame, .ref a_changeFrame, .ref a_lostAt, .ref a_blackAt, .ref a_slips, .ref a_leftArc, .ref a_died, .ref a_arcs, .int m_bestSum, .int m_nearest, .int m_nearestTown, .ref a_there, .ref a_backAt, .ref a_sorted, .ref a_parts, .int m_seed1, .int m_darkNow])), (a_letters, .inl (g.2.2.1, 8, .inl d_letters2_178)), (a_fresh, .inl (g.2.2.1, 311, .inl d_fresh))] [(a_tape, .inl (g.2.2.1, 900, .inl d_tape))] [1, 3, 0] [2] (m_namedT l g h0 m_thrown a_tape m_taped m_size m_at2_174 m_end2_175 m_token2_181 m_whole2_182 m_nameSize2_179 m_fault2_177 m_place2_180 m_trouble a_letters m_failed2_176 m_hasHouse a_r a_fresh a_st a_undone a_kept m_undos m_images a_from a_begin a_motor a_change a_startFrame a_changeFrame a_lostAt a_blackAt a_slips a_leftArc a_died a_arcs m_bestSum m_nearest m_nearestTown a_there a_backAt a_sorted a_parts m_seed1 m_darkNow d_letters2_178 d_fresh (iv_w iv_186 (by decide) (by decide)) (iv_w iv_185 (by decide) (by decide)) hp_d_fresh hk_188) dX11_markLine_54 mw575 mw576 mw577 mw5 mw578 rfl 11 rfl rfl 0 _ rfl (by unfold yOk; decide) rfl (Nat.le_of_ble_eq_true rfl) (Nat.le_of_ble_eq_true rfl) (Nat.le_of_ble_eq_true rfl) (Nat.le_of_ble_eq_true rfl) (Nat.le_of_ble_eq_true rfl) rfl rfl (by decide) rfl (by decide) (by decide) ?_
      rintro r_192 w ⟨m_failed2_189, m_fault2_190, m_place2_191, iv_193, iv_194, hq_195, rfl⟩
      refine k_ws [(a_tape, .inl (g.2.2.1, 900, .inl d_tape)), (h0, .inr (11, [.int m_thrown, .ref a_tape, .int m_taped, .int m_size, .int m_at2_174, .int m_end2_175, .int m_token2_181, .int m_whole2_182, .int m_nameSize2_179, .int m_fault2_190, .int m_place2_191, .int m_trouble, .ref a_letters, .int m_failed2_189, .int m_hasHouse, .ref a_r, .ref a_fresh, .ref a_st, .ref a_undone, .ref a_kept, .int m_undos, .int m_images, .ref a_from, .ref a_begin, .ref a_motor, .ref a_change, .ref a_startFrame, .ref a_changeFrame, .ref a_lostAt, .ref a_blackAt, .ref a_slips, .ref a_leftArc, .ref a_died, .ref a_arcs, .int m_bestSum, .int m_nearest, .int m_nearestTown, .ref a_there, .ref a_backAt, .ref a_sorted, .ref a_parts, .int m_seed1, .int m_darkNow])), (a_letters, .inl (g.2.2.1, 8, .inl d_letters2_178)), (a_fresh, .inl (g.2.2.1, 311, .inl d_fresh))] rfl ?_
      refine k_istore [(4, .int r_192), (3, .int 0), (2, .int r_23), (1, .int z_11), (0, .ref h0)] X dX11_markLine_57 (by decide) rfl ?_
      refine k_iconst (v := 0) X dX11_markLine_59 (by decide) ?_
      refine k_istore [(5, .int 0), (4, .int r_192), (3, .int 0), (2, .int r_23), (1, .int z_11), (0, .ref h0)] X dX11_markLine_60 (by decide) rfl ?_
      refine (fun hL : ∀ (nn_203 : Nat) (u_196 : Int32) (u_198 : Int32) (u_199 : Int32) (u_201 : Int32), (z_5.toInt - u_196.toInt).toNat = nn_203 → (IV u_196 0 255) → (IV u_199 0 1) → (m_failed2_189.toInt ≤ u_199.toInt) → Wk p l e _ s m args below meth c _ A g _ _ _ [(a_tape, .inl (g.2.2.1, 900, .inl d_tape)), (h0, .inr (11, [.int m_thrown, .ref a_tape, .int m_taped, .int m_size, .int m_at2_174, .int m_end2_175, .int m_token2_181, .int m_whole2_182, .int m_nameSize2_179, .int u_201, .int u_198, .int m_trouble, .ref a_letters, .int u_199, .int m_hasHouse, .ref a_r, .ref a_fresh, .ref a_st, .ref a_undone, .ref a_kept, .int m_undos, .int m_images, .ref a_from, .ref a_begin, .ref a_motor, .ref a_change, .ref a_startFrame, .ref a_changeFrame, .ref a_lostAt, .ref a_blackAt, .ref a_slips, .ref a_leftArc, .ref a_died, .ref a_arcs, .int m_bestSum, .int m_nearest, .int m_nearestTown, .ref a_there, .ref a_backAt, .ref a_sorted, .ref a_parts, .int m_seed1, .int m_darkNow])), (a_letters, .inl (g.2.2.1, 8, .inl d_letters2_178)), (a_fresh, .inl (g.2.2.1, 311, .inl d_fresh))] [(5, .int u_196), (4, .int r_192), (3, .int 0), (2, .int r_23), (1, .int z_11), (0, .ref h0)] 62 [] => hL _ 0 m_place2_191 m_failed2_189 m_fault2_190 rfl (iv_w (show IV 0 0 0 from (by decide)) (by decide) (by decide)) (iv_w iv_193 (by decide) (by decide)) (by omega)) ?_
      refine fun nn_203 => Nat.strongRecOn nn_203 (fun nn_203 ih_205 => ?_)
      intro u_196 u_198 u_199 u_201 hm_204 hv_197 hv_200 hx_202
      refine k_iload X dX11_markLine_62 0 rfl ?_
      refine k_aload_n X dX11_markLine_64 5 rfl ?_
      refine k_get (ci := 11) X inlX11 rfl 16 (by decide) dX11_markLine_65 mw171 1 rfl rfl ?_
      refine k_bipush (v := 8) X dX11_markLine_68 (by decide) ?_
      refine k_iald X dX11_markLine_70 3 rfl (by unfold vp_in; decide) ?_
      refine k_to z_5 ez_5.symm ?_
      refine k_ic_ge 131 X dX11_markLine_71 (by decide) (fun h_206 => ?_) (fun h_206 => ?_)
      · skip
        have j_207 : z_5.toInt ≤ u_196.toInt := iv_le h_206
        refine k_aload_n X dX11_markLine_131 5 rfl ?_
        refine k_get (ci := 11) X inlX11 rfl 13 (by decide) dX11_markLine_132 mw469 1 rfl rfl ?_
        refine k_if_eq 139 X dX11_markLine_135 (by decide) (fun h_208 => ?_) (fun h_208 => ?_)
        · skip
          have iv_209 : IV u_199 0 0 := iv_meet hv_200 (iv_e h_208 (show IV 0 0 0 from (by decide))) (by decide) (by decide)
          refine k_aload_n X dX11_markLine_139 5 rfl ?_
          refine k_callVV (n := 0) (As := []) (st := []) X [(h0, .inr (11, [.int m_thrown, .ref a_tape, .int m_taped, .int m_size, .int m_at2_174, .int m_end2_175, .int m_token2_181, .int m_whole2_182, .int m_nameSize2_179, .int u_201, .int u_198, .int m_trouble, .ref a_letters, .int u_199, .int m_hasHouse, .ref a_r, .ref a_fresh, .ref a_st, .ref a_undone, .ref a_kept, .int m_undos, .int m_images, .ref a_from, .ref a_begin, .ref a_motor, .ref a_change, .ref a_startFrame, .ref a_changeFrame, .ref a_lostAt, .ref a_blackAt, .ref a_slips, .ref a_leftArc, .ref a_died, .ref a_arcs, .int m_bestSum, .int m_nearest, .int m_nearestTown, .ref a_there, .ref a_backAt, .ref a_sorted, .ref a_parts, .int m_seed1, .int m_darkNow])), (a_tape, .inl (g.2.2.1, 900, .inl d_tape)), (a_letters, .inl (g.2.2.1, 8, .inl d_letters2_178))] [(a_fresh, .inl (g.2.2.1, 311, .inl d_fresh))] [1, 0, 2] [3] (m_next l g h0 m_thrown a_tape m_taped m_size m_at2_174 m_end2_175 m_token2_181 m_whole2_182 m_nameSize2_179 u_201 u_198 m_trouble a_letters u_199 m_hasHouse a_r a_fresh a_st a_undone a_kept m_undos m_images a_from a_begin a_motor a_change a_startFrame a_changeFrame a_lostAt a_blackAt a_slips a_leftArc a_died a_arcs m_bestSum m_nearest m_nearestTown a_there a_backAt a_sorted a_parts m_seed1 m_darkNow d_tape d_letters2_178 (iv_w hv_m_size (by decide) (by decide)) (iv_w iv_184 (by decide) (by decide)) (iv_w iv_186 (by decide) (by decide))) dX11_markLine_140 mw489 mw490 mw491 mw5 mw492 rfl 11 rfl rfl 0 _ rfl (by unfold yOk; decide) rfl (Nat.le_of_ble_eq_true rfl) (Nat.le_of_ble_eq_true rfl) (Nat.le_of_ble_eq_true rfl) (Nat.le_of_ble_eq_true rfl) (Nat.le_of_ble_eq_true rfl) rfl rfl (by decide) rfl (by decide) (by decide) ?_
          rintro w ⟨m_at2_210, m_end2_211, d_letters2_212, m_nameSize2_213, m_token2_214, m_whole2_215, iv_217, iv_218, hq_219, hq_220, hk_221, rfl⟩
          refine k_ws [(a_fresh, .inl (g.2.2.1, 311, .inl d_fresh)), (h0, .inr (11, [.int m_thrown, .ref a_tape, .int m_taped, .int m_size, .int m_at2_210, .int m_end2_211, .int m_token2_214, .int m_whole2_215, .int m_nameSize2_213, .int u_201, .int u_198, .int m_trouble, .ref a_letters, .int u_199, .int m_hasHouse, .ref a_r, .ref a_fresh, .ref a_st, .ref a_undone, .ref a_kept, .int m_undos, .int m_images, .ref a_from, .ref a_begin, .ref a_motor, .ref a_change, .ref a_startFrame, .ref a_changeFrame, .ref a_lostAt, .ref a_blackAt, .ref a_slips, .ref a_leftArc, .ref a_died, .ref a_arcs, .int m_bestSum, .int m_nearest, .int m_nearestTown, .ref a_there, .ref a_backAt, .ref a_sorted, .ref a_parts, .int m_seed1, .int m_darkNow])), (a_tape, .inl (g.2.2.1, 900, .inl d_tape)), (a_letters, .inl (g.2.2.1, 8, .inl d_letters2_212))] rfl ?_
          refine k_aload_n X dX11_markLine_143 5 rfl ?_
          refine k_get (ci := 11) X inlX11 rfl 16 (by decide) dX11_markLine_144 mw171 1 rfl rfl ?_
          refine k_iload_n X dX11_markLine_147 4 rfl ?_
          refine k_iload_n X dX11_markLine_148 3 rfl ?_
          refine k_iast [(a_fresh, .inl (g.2.2.1, 311, .inl (upd d_fresh (z_11 : Int32).toNatClampNeg r_23))), (h0, .inr (11, [.int m_thrown, .ref a_tape, .int m_taped, .int m_size, .int m_at2_210, .int m_end2_211, .int m_token2_214, .int m_whole2_215, .int m_nameSize2_213, .int u_201, .int u_198, .int m_trouble, .ref a_letters, .int u_199, .int m_hasHouse, .ref a_r, .ref a_fresh, .ref a_st, .ref a_undone, .ref a_kept, .int m_undos, .int m_images, .ref a_from, .ref a_begin, .ref a_motor, .ref a_change, .ref a_startFrame, .ref a_changeFrame, .ref a_lostAt, .ref a_blackAt, .ref a_slips, .ref a_leftArc, .ref a_died, .ref a_arcs, .int m_bestSum, .int m_nearest, .int m_nearestTown, .ref a_there, .ref a_backAt, .ref a_sorted, .ref a_parts, .int m_seed1, .int m_darkNow])), (a_tape, .inl (g.2.2.1, 900, .inl d_tape)), (a_letters, .inl (g.2.2.1, 8, .inl d_letters2_212))] X dX11_markLine_149 0 rfl (iv_in iv_13 (by decide) (by decide)) rfl ?_
          have i_224 : z_11.toInt = 44 + 3 * z_5.toInt := by omega
          refine (fun hg : ∀ fa_222 : Nat → Int32, fa_222 = upd d_fresh (z_11 : Int32).toNatClampNeg r_23 → RInv fa_222 → K16 d_fresh fa_222 → Wk p l e _ s m args below meth c _ A g _ _ _ [(a_fresh, .inl (g.2.2.1, 311, .inl fa_222)), (h0, .inr (11, [.int m_thrown, .ref a_tape, .int m_taped, .int m_size, .int m_at2_210, .int m_end2_211, .int m_token2_214, .int m_whole2_215, .int m_nameSize2_213, .int u_201, .int u_198, .int m_trouble, .ref a_letters, .int u_199, .int m_hasHouse, .ref a_r, .ref a_fresh, .ref a_st, .ref a_undone, .ref a_kept, .int m_undos, .int m_images, .ref a_from, .ref a_begin, .ref a_motor, .ref a_change, .ref a_startFrame, .ref a_changeFrame, .ref a_lostAt, .ref a_blackAt, .ref a_slips, .ref a_leftArc, .ref a_died, .ref a_arcs, .int m_bestSum, .int m_nearest, .int m_nearestTown, .ref a_there, .ref a_backAt, .ref a_sorted, .ref a_parts, .int m_seed1, .int m_darkNow])), (a_tape, .inl (g.2.2.1, 900, .inl d_tape)), (a_letters, .inl (g.2.2.1, 8, .inl d_letters2_212))] _ _ _ => hg _ rfl (w_rb_44_3 hp_d_fresh i_224 (iv_w iv_7 (by decide) (by decide)) (iv_w iv_27 (by decide) (by decide))) (k16_u (z := z_11) (by have := iv_13; omega))) (fun fa_222 eq_226 hR_223 hk_225 => ?_)
          have ek_227 : z_5 = fa_222 (8 : Int32).toNatClampNeg := ez_5.trans (hk_225 _ (by decide)).symm
          have hT_228 : TRI fa_222 := by have := iv_13; exact tri_z (z := z_11) eq_226 hr_0 hp_d_fresh (by omega) (by omega) (by omega) (by omega) (by omega)
          refine k_aload_n X dX11_markLine_150 5 rfl ?_
          refine k_get (ci := 11) X inlX11 rfl 16 (by decide) dX11_markLine_151 mw171 1 rfl rfl ?_
          refine k_iload_n X dX11_markLine_154 4 rfl ?_
          refine k_iconst (v := 1) X dX11_markLine_155 (by decide) ?_
          refine k_iadd X dX11_markLine_156 ?_
          refine k_nm (fun z_229 ez_229 => ?_)
          have i_230 : z_229.toInt = z_11.toInt + 1 := in_add ez_229 iv_13 (show IV 1 1 1 from (by decide)) (by decide) (by decide)
          have iv_231 : IV z_229 45 78 := by have := iv_13; have := (show IV 1 1 1 from (by decide)); rw [IV, i_230]; omega
          refine k_iload_n X dX11_markLine_157 2 rfl ?_
          refine k_iast [(a_fresh, .inl (g.2.2.1, 311, .inl (upd fa_222 (z_229 : Int32).toNatClampNeg 0))), (h0, .inr (11, [.int m_thrown, .ref a_tape, .int m_taped, .int m_size, .int m_at2_210, .int m_end2_211, .int m_token2_214, .int m_whole2_215, .int m_nameSize2_213, .int u_201, .int u_198, .int m_trouble, .ref a_letters, .int u_199, .int m_hasHouse, .ref a_r, .ref a_fresh, .ref a_st, .ref a_undone, .ref a_kept, .int m_undos, .int m_images, .ref a_from, .ref a_begin, .ref a_motor, .ref a_change, .ref a_startFrame, .ref a_changeFrame, .ref a_lostAt, .ref a_blackAt, .ref a_slips, .ref a_leftArc, .ref a_died, .ref a_arcs, .int m_bestSum, .int m_nearest, .int m_nearestTown, .ref a_there, .ref a_backAt, .ref a_sorted, .ref a_parts, .int m_seed1, .int m_darkNow])), (a_tape, .inl (g.2.2.1, 900, .inl d_tape)), (a_letters, .inl (g.2.2.1, 8, .inl d_letters2_212))] X dX11_markLine_158 0 rfl (iv_in iv_231 (by decide) (by decide)) rfl ?_
          refine (fun hg : ∀ fa_232 : Nat → Int32, fa_232 = upd fa_222 (z_229 : Int32).toNatClampNeg 0 → RInv fa_232 → K16 fa_222 fa_232 → Wk p l e _ s m args below meth c _ A g _ _ _ [(a_fresh, .inl (g.2.2.1, 311, .inl fa_232)), (h0, .inr (11, [.int m_thrown, .ref a_tape, .int m_taped, .int m_size, .int m_at2_210, .int m_end2_211, .int m_token2_214, .int m_whole2_215, .int m_nameSize2_213, .int u_201, .int u_198, .int m_trouble, .ref a_letters, .int u_199, .int m_hasHouse, .ref a_r, .ref a_fresh, .ref a_st, .ref a_undone, .ref a_kept, .int m_undos, .int m_images, .ref a_from, .ref a_begin, .ref a_motor, .ref a_change, .ref a_startFrame, .ref a_changeFrame, .ref a_lostAt, .ref a_blackAt, .ref a_slips, .ref a_leftArc, .ref a_died, .ref a_arcs, .int m_bestSum, .int m_nearest, .int m_nearestTown, .ref a_there, .ref a_backAt, .ref a_sorted, .ref a_parts, .int m_seed1, .int m_darkNow])), (a_tape, .inl (g.2.2.1, 900, .inl d_tape)), (a_letters, .inl (g.2.2.1, 8, .inl d_letters2_212))] _ _ _ => hg _ rfl (w_zero hR_223) (k16_u (z := z_229) (by have := iv_231; omega))) (fun fa_232 eq_235 hR_233 hk_234 => ?_)
          have ek_236 : z_5 = fa_232 (8 : Int32).toNatClampNeg := ek_227.trans (hk_234 _ (by decide)).symm
          have hT_237 : TRI fa_232 := by have := iv_231; exact tri_z (z := z_229) eq_235 hT_228 hR_223 (by omega) (by omega) (by omega) (by omega) (by omega)
          refine k_aload_n X dX11_markLine_159 5 rfl ?_
          refine k_get (ci := 11) X inlX11 rfl 16 (by decide) dX11_markLine_160 mw171 1 rfl rfl ?_
          refine k_iload_n X dX11_markLine_163 4 rfl ?_
          refine k_iconst (v := 2) X dX11_markLine_164 (by decide) ?_
          refine k_iadd X dX11_markLine_165 ?_
          refine k_nm (fun z_238 ez_238 => ?_)
          have i_239 : z_238.toInt = z_11.toInt + 2 := in_add ez_238 iv_13 (show IV 2 2 2 from (by decide)) (by decide) (by decide)
          have iv_240 : IV z_238 46 79 := by have := iv_13; have := (show IV 2 2 2 from (by decide)); rw [IV, i_239]; omega
          refine k_iload X dX11_markLine_166 1 rfl ?_
          refine k_iast [(a_fresh, .inl (g.2.2.1, 311, .inl (upd fa_232 (z_238 : Int32).toNatClampNeg r_192))), (h0, .inr (11, [.int m_thrown, .ref a_tape, .int m_taped, .int m_size, .int m_at2_210, .int m_end2_211, .int m_token2_214, .int m_whole2_215, .int m_nameSize2_213, .int u_201, .int u_198, .int m_trouble, .ref a_letters, .int u_199, .int m_hasHouse, .ref a_r, .ref a_fresh, .ref a_st, .ref a_undone, .ref a_kept, .int m_undos, .int m_images, .ref a_from, .ref a_begin, .ref a_motor, .ref a_change, .ref a_startFrame, .ref a_changeFrame, .ref a_lostAt, .ref a_blackAt, .ref a_slips, .ref a_leftArc, .ref a_died, .ref a_arcs, .int m_bestSum, .int m_nearest, .int m_nearestTown, .ref a_there, .ref a_backAt, .ref a_sorted, .ref a_parts, .int m_seed1, .int m_darkNow])), (a_tape, .inl (g.2.2.1, 900, .inl d_tape)), (a_letters, .inl (g.2.2.1, 8, .inl d_letters2_212))] X dX11_markLine_168 0 rfl (iv_in iv_240 (by decide) (by decide)) rfl ?_
          have i_243 : z_238.toInt = 46 + 3 * z_5.toInt := by omega
          refine (fun hg : ∀ fa_241 : Nat → Int32, fa_241 = upd fa_232 (z_238 : Int32).toNatClampNeg r_192 → RInv fa_241 → K16 fa_232 fa_241 → Wk p l e _ s m args below meth c _ A g _ _ _ [(a_fresh, .inl (g.2.2.1, 311, .inl fa_241)), (h0, .inr (11, [.int m_thrown, .ref a_tape, .int m_taped, .int m_size, .int m_at2_210, .int m_end2_211, .int m_token2_214, .int m_whole2_215, .int m_nameSize2_213, .int u_201, .int u_198, .int m_trouble, .ref a_letters, .int u_199, .int m_hasHouse, .ref a_r, .ref a_fresh, .ref a_st, .ref a_undone, .ref a_kept, .int m_undos, .int m_images, .ref a_from, .ref a_begin, .ref a_motor, .ref a_change, .ref a_startFrame, .ref a_changeFrame, .ref a_lostAt, .ref a_blackAt, .ref a_slips, .ref a_leftArc, .ref a_died, .ref a_arcs, .int m_bestSum, .int m_nearest, .int m_nearestTown, .ref a_there, .ref a_backAt, .ref a_sorted, .ref a_parts, .int m_seed1, .int m_darkNow])), (a_tape, .inl (g.2.2.1, 900, .inl d_tape)), (a_letters, .inl (g.2.2.1, 8, .inl d_letters2_212))] _ _ _ => hg _ rfl (w_rb_46_3 hR_233 i_243 (iv_w iv_7 (by decide) (by decide)) (iv_w iv_194 (by decide) (by decide))) (k16_u (z := z_238) (by have := iv_240; omega))) (fun fa_241 eq_245 hR_242 hk_244 => ?_)
          have ek_246 : z_5 = fa_241 (8 : Int32).toNatClampNeg := ek_236.trans (hk_244 _ (by decide)).symm
          refine k_aload_n X dX11_markLine_169 5 rfl ?_
          refine k_get (ci := 11) X inlX11 rfl 16 (by decide) dX11_markLine_170 mw171 1 rfl rfl ?_
          refine k_bipush (v := 8) X dX11_markLine_173 (by decide) ?_
          refine k_dup2 X dX11_markLine_175 rfl rfl ?_
          refine k_iald X dX11_markLine_176 0 rfl (by unfold vp_in; decide) ?_
          refine k_to z_5 ek_246.symm ?_
          refine k_iconst (v := 1) X dX11_markLine_177 (by decide) ?_
          refine k_iadd X dX11_markLine_178 ?_
          refine k_nm (fun z_248 ez_248 => ?_)
          have i_249 : z_248.toInt = z_5.toInt + 1 := in_add ez_248 iv_7 (show IV 1 1 1 from (by decide)) (by decide) (by decide)
          have iv_250 : IV z_248 1 12 := by have := iv_7; have := (show IV 1 1 1 from (by decide)); rw [IV, i_249]; omega
          refine k_iast [(a_fresh, .inl (g.2.2.1, 311, .inl (upd fa_241 (8 : Int32).toNatClampNeg z_248))), (h0, .inr (11, [.int m_thrown, .ref a_tape, .int m_taped, .int m_size, .int m_at2_210, .int m_end2_211, .int m_token2_214, .int m_whole2_215, .int m_nameSize2_213, .int u_201, .int u_198, .int m_trouble, .ref a_letters, .int u_199, .int m_hasHouse, .ref a_r, .ref a_fresh, .ref a_st, .ref a_undone, .ref a_kept, .int m_undos, .int m_images, .ref a_from, .ref a_begin, .ref a_motor, .ref a_change, .ref a_startFrame, .ref a_changeFrame, .ref a_lostAt, .ref a_blackAt, .ref a_slips, .ref a_leftArc, .ref a_died, .ref a_arcs, .int m_bestSum, .int m_nearest, .int m_nearestTown, .ref a_there, .ref a_backAt, .ref a_sorted, .ref a_parts, .int m_seed1, .int m_darkNow])), (a_tape, .inl (g.2.2.1, 900, .inl d_tape)), (a_letters, .inl (g.2.2.1, 8, .inl d_letters2_212))] X dX11_markLine_179 0 rfl (by unfold vp_in; decide) rfl ?_
          refine (fun hg : ∀ fa_251 : Nat → Int32, fa_251 = upd fa_241 (8 : Int32).toNatClampNeg z_248 → RInv fa_251 → Wk p l e _ s m args below meth c _ A g _ _ _ [(a_fresh, .inl (g.2.2.1, 311, .inl fa_251)), (h0, .inr (11, [.int m_thrown, .ref a_tape, .int m_taped, .int m_size, .int m_at2_210, .int m_end2_211, .int m_token2_214, .int m_whole2_215, .int m_nameSize2_213, .int u_201, .int u_198, .int m_trouble, .ref a_letters, .int u_199, .int m_hasHouse, .ref a_r, .ref a_fresh, .ref a_st, .ref a_undone, .ref a_kept, .int m_undos, .int m_images, .ref a_from, .ref a_begin, .ref a_motor, .ref a_change, .ref a_startFrame, .ref a_changeFrame, .ref a_lostAt, .ref a_blackAt, .ref a_slips, .ref a_leftArc, .ref a_died, .ref a_arcs, .int m_bestSum, .int m_nearest, .int m_nearestTown, .ref a_there, .ref a_backAt, .ref a_sorted, .ref a_parts, .int m_seed1, .int m_darkNow])), (a_tape, .inl (g.2.2.1, 900, .inl d_tape)), (a_letters, .inl (g.2.2.1, 8, .inl d_letters2_212))] _ _ _ => hg _ rfl (w_rb_8 hR_242 (iv_w iv_250 (by decide) (by decide)))) (fun fa_251 eq_254 hR_252 => ?_)
          have hT_255 : TRI fa_251 := tri_mark (v := z_5) hr_0 hp_d_fresh eq_226 eq_235 eq_245 eq_254 (by omega) (by omega) (by omega) (by omega) (by omega) (iv_w iv_7 (by decide) (by decide)) (iv_w iv_194 (by decide) (by decide)) (hq_195.resolve_left (by omega))
          exact k_vret X hr dX11_markLine_180 (Nat.le_of_ble_eq_true rfl) (Nat.le_of_ble_eq_true rfl) [1, 2, 3, 0] (by decide) rfl rfl ⟨m_at2_210, m_end2_211, u_199, u_201, fa_251, d_letters2_212, m_nameSize2_213, u_198, m_token2_214, m_whole2_215, (iv_w iv_217 (by decide) (by decide)), (iv_w iv_209 (by decide) (by decide)), (iv_w iv_218 (by decide) (by decide)), hR_252, (by omega), hT_255, hk_221, rfl⟩
        · skip
          have iv_256 : IV u_199 1 1 := iv_neL h_208 hv_200 (show IV 0 0 0 from (by decide)) (by decide)
          exact k_vret X hr dX11_markLine_138 (Nat.le_of_ble_eq_true rfl) (Nat.le_of_ble_eq_true rfl) [1, 0, 2, 3] (by decide) rfl rfl ⟨m_at2_174, m_end2_175, u_199, u_201, d_fresh, d_letters2_178, m_nameSize2_179, u_198, m_token2_181, m_whole2_182, (iv_w iv_184 (by decide) (by decide)), (iv_w iv_256 (by decide) (by decide)), (iv_w iv_186 (by decide) (by decide)), hp_d_fresh, (by omega), hr_0, hk_188, rfl⟩
      · skip
        have j_257 : u_196.toInt < z_5.toInt := iv_nle h_206
        have iv_258 : IV u_196 0 10 := iv_ltL (iv_nle h_206) hv_197 iv_7 (by decide)
        have iv_259 : IV z_5 1 11 := iv_ltR (iv_nle h_206) hv_197 iv_7 (by decide)
        refine k_aload_n X dX11_markLine_74 5 rfl ?_
        refine k_get (ci := 11) X inlX11 rfl 13 (by decide) dX11_markLine_75 mw469 1 rfl rfl ?_
        refine k_if_ne 125 X dX11_markLine_78 (by decide) (fun h_260 => ?_) (fun h_260 => ?_)
        · skip
          have iv_261 : IV u_199 1 1 := iv_neL h_260 hv_200 (show IV 0 0 0 from (by decide)) (by decide)
          obtain ⟨z_262, ez_262⟩ : ∃ y : Int32, u_196 + Int32.ofInt 1 = y := ⟨_, rfl⟩
          refine k_iinc z_262 [(5, .int z_262), (4, .int r_192), (3, .int 0), (2, .int r_23), (1, .int z_11), (0, .ref h0)] 0 X dX11_markLine_125 rfl ez_262 (by decide) rfl ?_
          have i_263 : z_262.toInt = u_196.toInt + 1 := in_inc ez_262 (by decide) iv_258 (by decide) (by decide)
          have iv_264 : IV z_262 1 11 := by have := iv_258; rw [IV, i_263]; omega
          refine k_goto 62 X dX11_markLine_128 (by decide) ?_
          exact ih_205 _ (by omega) z_262 u_198 u_199 u_201 rfl (iv_w iv_264 (by decide) (by decide)) (iv_w iv_261 (by decide) (by decide)) (by omega)
        · skip
          have iv_265 : IV u_199 0 0 := iv_meet hv_200 (iv_e h_260 (show IV 0 0 0 from (by decide))) (by decide) (by decide)
          refine k_aload_n X dX11_markLine_81 5 rfl ?_
          refine k_get (ci := 11) X inlX11 rfl 16 (by decide) dX11_markLine_82 mw171 1 rfl rfl ?_
          refine k_bipush (v := 44) X dX11_markLine_85 (by decide) ?_
          refine k_iconst (v := 3) X dX11_markLine_87 (by decide) ?_
          refine k_iload X dX11_markLine_88 0 rfl ?_
          refine k_imul X dX11_markLine_90 ?_
          refine k_nm (fun z_266 ez_266 => ?_)
          have i_267 : z_266.toInt = 3 * u_196.toInt := in_mul ez_266 (by decide) (by decide) iv_258 (by decide) (by decide)
          have iv_268 : IV z_266 0 30 := by have := (show IV 3 3 3 from (by decide)); have := iv_258; rw [IV, i_267]; omega
          refine k_iadd X dX11_markLine_91 ?_
          refine k_nm (fun z_269 ez_269 => ?_)
          have i_270 : z_269.toInt = 44 + z_266.toInt := in_add ez_269 (show IV 44 44 44 from (by decide)) iv_268 (by decide) (by decide)
          have iv_271 : IV z_269 44 74 := by have := (show IV 44 44 44 from (by decide)); have := iv_268; rw [IV, i_270]; omega
          refine k_iald X dX11_markLine_92 3 rfl (iv_in iv_271 (by decide) (by decide)) ?_
          refine k_nm (fun z_272 ez_272 => ?_)
          have i_273 : z_269.toInt = 44 + 3 * u_196.toInt := by omega
          have iv_274 : IV z_272 0 7 := rb_44_3 ez_272 hp_d_fresh i_273 (iv_w iv_258 (by decide) (by decide))
          refine k_iload_n X dX11_markLine_93 3 rfl ?_
          refine k_ic_ne 125 X dX11_markLine_94 (by decide) (fun h_275 => ?_) (fun h_275 => ?_)
          · skip
            obtain ⟨z_276, ez_276⟩ : ∃ y : Int32, u_196 + Int32.ofInt 1 = y := ⟨_, rfl⟩
            refine k_iinc z_276 [(5, .int z_276), (4, .int r_192), (3, .int 0), (2, .int r_23), (1, .int z_11), (0, .ref h0)] 0 X dX11_markLine_125 rfl ez_276 (by decide) rfl ?_
            have i_277 : z_276.toInt = u_196.toInt + 1 := in_inc ez_276 (by decide) iv_258 (by decide) (by decide)
            have iv_278 : IV z_276 1 11 := by have := iv_258; rw [IV, i_277]; omega
            refine k_goto 62 X dX11_markLine_128 (by decide) ?_
            exact ih_205 _ (by omega) z_276 u_198 u_199 u_201 rfl (iv_w iv_278 (by decide) (by decide)) (iv_w iv_265 (by decide) (by decide)) (by omega)
          · skip
            refine k_aload_n X dX11_markLine_97 5 rfl ?_
            refine k_get (ci := 11) X inlX11 rfl 16 (by decide) dX11_markLine_98 mw171 1 rfl rfl ?_
            refine k_bipush (v := 44) X dX11_markLine_101 (by decide) ?_
            refine k_iconst (v := 3) X dX11_markLine_103 (by decide) ?_
            refine k_iload X dX11_markLine_104 0 rfl ?_
            refine k_imul X dX11_markLine_106 ?_
            refine k_to z_266 ez_266.symm ?_
            refine k_iadd X dX11_markLine_107 ?_
            refine k_to z_269 ez_269.symm ?_
            refine k_iconst (v := 2) X dX11_markLine_108 (by decide) ?_
            refine k_iadd X dX11_markLine_109 ?_
            refine k_nm (fun z_279 ez_279 => ?_)
            have i_280 : z_279.toInt = z_269.toInt + 2 := in_add ez_279 iv_271 (show IV 2 2 2 from (by decide)) (by decide) (by decide)
            have iv_281 : IV z_279 46 76 := by have := iv_271; have := (show IV 2 2 2 from (by decide)); rw [IV, i_280]; omega
            refine k_iald X dX11_markLine_110 3 rfl (iv_in iv_281 (by decide) (by decide)) ?_
            refine k_nm (fun z_282 ez_282 => ?_)
            have i_283 : z_279.toInt = 46 + 3 * u_196.toInt := by omega
            have iv_284 : IV z_282 0 3 := rb_46_3 ez_282 hp_d_fresh i_283 (iv_w iv_258 (by decide) (by decide))
            refine k_iload X dX11_markLine_111 1 rfl ?_
            refine k_ic_ne 125 X dX11_markLine_113 (by decide) (fun h_285 => ?_) (fun h_285 => ?_)
            · skip
              obtain ⟨z_286, ez_286⟩ : ∃ y : Int32, u_196 + Int32.ofInt 1 = y := ⟨_, rfl⟩
              refine k_iinc z_286 [(5, .int z_286), (4, .int r_192), (3, .int 0), (2, .int r_23), (1, .int z_11), (0, .ref h0)] 0 X dX11_markLine_125 rfl ez_286 (by decide) rfl ?_
              have i_287 : z_286.toInt = u_196.toInt + 1 := in_inc ez_286 (by decide) iv_258 (by decide) (by decide)
              have iv_288 : IV z_286 1 11 := by have := iv_258; rw [IV, i_287]; omega
              refine k_goto 62 X dX11_markLine_128 (by decide) ?_
              exact ih_205 _ (by omega) z_286 u_198 u_199 u_201 rfl (iv_w iv_288 (by decide) (by decide)) (iv_w iv_265 (by decide) (by decide)) (by omega)
            · skip
              refine k_aload_n X dX11_markLine_116 5 rfl ?_
              refine k_iconst (v := 3) X dX11_markLine_117 (by decide) ?_
              refine k_aload_n X dX11_markLine_118 5 rfl ?_
              refine k_get (ci := 11) X inlX11 rfl 4 (by decide) dX11_markLine_119 mw473 1 rfl rfl ?_
              refine k_callVV (n := 2) (As := [.int 3, .int m_at2_174]) (st := []) X [(h0, .inr (11, [.int m_thrown, .ref a_tape, .int m_taped, .int m_size, .int m_at2_174, .int m_end2_175, .int m_token2_181, .int m_whole2_182, .int m_nameSize2_179, .int u_201, .int u_198, .int m_trouble, .ref a_letters, .int u_199, .int m_hasHouse, .ref a_r, .ref a_fresh, .ref a_st, .ref a_undone, .ref a_kept, .int m_undos, .int m_images, .ref a_from, .ref a_begin, .ref a_motor, .ref a_change, .ref a_startFrame, .ref a_changeFrame, .ref a_lostAt, .ref a_blackAt, .ref a_slips, .ref a_leftArc, .ref a_died, .ref a_arcs, .int m_bestSum, .int m_nearest, .int m_nearestTown, .ref a_there, .ref a_backAt, .ref a_sorted, .ref a_parts, .int m_seed1, .int m_darkNow]))] [(a_tape, .inl (g.2.2.1, 900, .inl d_tape)), (a_letters, .inl (g.2.2.1, 8, .inl d_letters2_178)), (a_fresh, .inl (g.2.2.1, 311, .inl d_fresh))] [1] [0, 2, 3] (m_bad l g h0 3 m_at2_174 m_thrown a_tape m_taped m_size m_at2_174 m_end2_175 m_token2_181 m_whole2_182 m_nameSize2_179 u_201 u_198 m_trouble a_letters u_199 m_hasHouse a_r a_fresh a_st a_undone a_kept m_undos m_images a_from a_begin a_motor a_change a_startFrame a_changeFrame a_lostAt a_blackAt a_slips a_leftArc a_died a_arcs m_bestSum m_nearest m_nearestTown a_there a_backAt a_sorted a_parts m_seed1 m_darkNow (iv_w iv_265 (by decide) (by decide))) dX11_markLine_122 mw519 mw520 mw521 mw5 mw522 rfl 11 rfl rfl 0 _ rfl (by unfold yOk; decide) rfl (Nat.le_of_ble_eq_true rfl) (Nat.le_of_ble_eq_true rfl) (Nat.le_of_ble_eq_true rfl) (Nat.le_of_ble_eq_true rfl) (Nat.le_of_ble_eq_true rfl) rfl rfl (by decide) rfl (by decide) (by decide) ?_
              rintro w ⟨m_failed2_289, m_fault2_290, m_place2_291, iv_293, rfl⟩
              refine k_ws [(a_tape, .inl (g.2.2.1, 900, .inl d_tape)), (a_letters, .inl (g.2.2.1, 8, .inl d_letters2_178)), (a_fresh, .inl (g.2.2.1, 311, .inl d_fresh)), (h0, .inr (11, [.int m_thrown, .ref a_tape, .int m_taped, .int m_size, .int m_at2_174, .int m_end2_175, .int m_token2_181, .int m_whole2_182, .int m_nameSize2_179, .int m_fault2_290, .int m_place2_291, .int m_trouble, .ref a_letters, .int m_failed2_289, .int m_hasHouse, .ref a_r, .ref a_fresh, .ref a_st, .ref a_undone, .ref a_kept, .int m_undos, .int m_images, .ref a_from, .ref a_begin, .ref a_motor, .ref a_change, .ref a_startFrame, .ref a_changeFrame, .ref a_lostAt, .ref a_blackAt, .ref a_slips, .ref a_leftArc, .ref a_died, .ref a_arcs, .int m_bestSum, .int m_nearest, .int m_nearestTown, .ref a_there, .ref a_backAt, .ref a_sorted, .ref a_parts, .int m_seed1, .int m_darkNow]))] rfl ?_
              obtain ⟨z_294, ez_294⟩ : ∃ y : Int32, u_196 + Int32.ofInt 1 = y := ⟨_, rfl⟩
              refine k_iinc z_294 [(5, .int z_294), (4, .int r_192), (3, .int 0), (2, .int r_23), (1, .int z_11), (0, .ref h0)] 0 X dX11_markLine_125 rfl ez_294 (by decide) rfl ?_
              have i_295 : z_294.toInt = u_196.toInt + 1 := in_inc ez_294 (by decide) iv_258 (by decide) (by decide)
              have iv_296 : IV z_294 1 11 := by have := iv_258; rw [IV, i_295]; omega
              refine k_goto 62 X dX11_markLine_128 (by decide) ?_
              refine k_sub [(a_tape, .inl (g.2.2.1, 900, .inl d_tape)), (h0, .inr (11, [.int m_thrown, .ref a_tape, .int m_taped, .int m_size, .int m_at2_174, .int m_end2_175, .int m_token2_181, .int m_whole2_182, .int m_nameSize2_179, .int m_fault2_290, .int m_place2_291, .int m_trouble, .ref a_letters, .int m_failed2_289, .int m_hasHouse, .ref a_r, .ref a_fresh, .ref a_st, .ref a_undone, .ref a_kept, .int m_undos, .int m_images, .ref a_from, .ref a_begin, .ref a_motor, .ref a_change, .ref a_startFrame, .ref a_changeFrame, .ref a_lostAt, .ref a_blackAt, .ref a_slips, .ref a_leftArc, .ref a_died, .ref a_arcs, .int m_bestSum, .int m_nearest, .int m_nearestTown, .ref a_there, .ref a_backAt, .ref a_sorted, .ref a_parts, .int m_seed1, .int m_darkNow])), (a_letters, .inl (g.2.2.1, 8, .inl d_letters2_178)), (a_fresh, .inl (g.2.2.1, 311, .inl d_fresh))] [0, 3, 1, 2] rfl (by decide) rfl ?_
              exact ih_205 _ (by omega) z_294 m_place2_291 m_failed2_289 m_fault2_290 rfl (iv_w iv_296 (by decide) (by decide)) (iv_w iv_293 (by decide) (by decide)) (by omega)
  · skip
    have iv_297 : IV m_failed 1 1 := iv_neL h_1 hv_m_failed (show IV 0 0 0 from (by decide)) (by decide)
    exact k_vret X hr dX11_markLine_7 (Nat.le_of_ble_eq_true rfl) (Nat.le_of_ble_eq_true rfl) [0, 1, 2, 3] (by decide) rfl rfl ⟨m_at, m_end, m_failed, m_fault, d_fresh, d_letters, m_nameSize, m_place, m_token, m_whole, (iv_w hv_m_end (by decide) (by decide)), (iv_w iv_297 (by decide) (by decide)), (iv_w hv_m_nameSize (by decide) (by decide)), hp_d_fresh, (by omega), hr_0, hc_1, rfl⟩

theorem dX11_joinLine_0 : decode cX11_joinLine 0 = .ok (.aload_n 0, 1) := by decide +kernel
theorem dX11_joinLine_1 : decode cX11_joinLine 1 = .ok (.getfield 121, 3) := by decide +kernel
theorem dX11_joinLine_4 : decode cX11_joinLine 4 = .ok (.ifCond .eq 4, 3) := by decide +kernel
theorem dX11_joinLine_7 : decode cX11_joinLine 7 = .ok (.return_, 1) := by decide +kernel
theorem dX11_joinLine_8 : decode cX11_joinLine 8 = .ok (.bipush 80, 2) := by decide +kernel
theorem dX11_joinLine_10 : decode cX11_joinLine 10 = .ok (.iconst 2, 1) := by decide +kernel
theorem dX11_joinLine_11 : decode cX11_joinLine 11 = .ok (.aload_n 0, 1) := by decide +kernel
theorem dX11_joinLine_12 : decode cX11_joinLine 12 = .ok (.getfield 23, 3) := by decide +kernel
theorem dX11_joinLine_15 : decode cX11_joinLine 15 = .ok (.bipush 9, 2) := by decide +kernel
theorem dX11_joinLine_17 : decode cX11_joinLine 17 = .ok (.iaload, 1) := by decide +kernel
theorem dX11_joinLine_18 : decode cX11_joinLine 18 = .ok (.imul, 1) := by decide +kernel
theorem dX11_joinLine_19 : decode cX11_joinLine 19 = .ok (.iadd, 1) := by decide +kernel
theorem dX11_joinLine_20 : decode cX11_joinLine 20 = .ok (.istore_n 1, 1) := by decide +kernel
theorem dX11_joinLine_21 : decode cX11_joinLine 21 = .ok (.aload_n 0, 1) := by decide +kernel
theorem dX11_joinLine_22 : decode cX11_joinLine 22 = .ok (.getfield 23, 3) := by decide +kernel
theorem dX11_joinLine_25 : decode cX11_joinLine 25 = .ok (.iload_n 1, 1) := by decide +kernel
theorem dX11_joinLine_26 : decode cX11_joinLine 26 = .ok (.aload_n 0, 1) := by decide +kernel
theorem dX11_joinLine_27 : decode cX11_joinLine 27 = .ok (.invokevirtual 288, 3) := by decide +kernel
theorem dX11_joinLine_30 : decode cX11_joinLine 30 = .ok (.iastore, 1) := by decide +kernel
theorem dX11_joinLine_31 : decode cX11_joinLine 31 = .ok (.aload_n 0, 1) := by decide +kernel
theorem dX11_joinLine_32 : decode cX11_joinLine 32 = .ok (.getfield 121, 3) := by decide +kernel
theorem dX11_joinLine_35 : decode cX11_joinLine 35 = .ok (.ifCond .ne 14, 3) := by decide +kernel
theorem dX11_joinLine_38 : decode cX11_joinLine 38 = .ok (.aload_n 0, 1) := by decide +kernel
theorem dX11_joinLine_39 : decode cX11_joinLine 39 = .ok (.aload_n 0, 1) := by decide +kernel
theorem dX11_joinLine_40 : decode cX11_joinLine 40 = .ok (.getfield 23, 3) := by decide +kernel
theorem dX11_joinLine_43 : decode cX11_joinLine 43 = .ok (.iload_n 1, 1) := by decide +kernel
theorem dX11_joinLine_44 : decode cX11_joinLine 44 = .ok (.iaload, 1) := by decide +kernel
theorem dX11_joinLine_45 : decode cX11_joinLine 45 = .ok (.invokevirtual 291, 3) := by decide +kernel
theorem dX11_joinLine_48 : decode cX11_joinLine 48 = .ok (.pop, 1) := by decide +kernel
theorem dX11_joinLine_49 : decode cX11_joinLine 49 = .ok (.aload_n 0, 1) := by decide +kernel
theorem dX11_joinLine_50 : decode cX11_joinLine 50 = .ok (.getfield 23, 3) := by decide +kernel
theorem dX11_joinLine_53 : decode cX11_joinLine 53 = .ok (.iload_n 1, 1) := by decide +kernel
theorem dX11_joinLine_54 : decode cX11_joinLine 54 = .ok (.iconst 1, 1) := by decide +kernel
theorem dX11_joinLine_55 : decode cX11_joinLine 55 = .ok (.iadd, 1) := by decide +kernel
theorem dX11_joinLine_56 : decode cX11_joinLine 56 = .ok (.aload_n 0, 1) := by decide +kernel
theorem dX11_joinLine_57 : decode cX11_joinLine 57 = .ok (.ldc_w 294, 3) := by decide +kernel
theorem dX11_joinLine_60 : decode cX11_joinLine 60 = .ok (.iconst 1, 1) := by decide +kernel
theorem dX11_joinLine_61 : decode cX11_joinLine 61 = .ok (.bipush 99, 2) := by decide +kernel
theorem dX11_joinLine_63 : decode cX11_joinLine 63 = .ok (.invokevirtual 264, 3) := by decide +kernel
theorem dX11_joinLine_66 : decode cX11_joinLine 66 = .ok (.iastore, 1) := by decide +kernel
theorem dX11_joinLine_67 : decode cX11_joinLine 67 = .ok (.aload_n 0, 1) := by decide +kernel
theorem dX11_joinLine_68 : decode cX11_joinLine 68 = .ok (.getfield 121, 3) := by decide +kernel
theorem dX11_joinLine_71 : decode cX11_joinLine 71 = .ok (.ifCond .ne 14, 3) := by decide +kernel
theorem dX11_joinLine_74 : decode cX11_joinLine 74 = .ok (.aload_n 0, 1) := by decide +kernel
theorem dX11_joinLine_75 : decode cX11_joinLine 75 = .ok (.getfield 23, 3) := by decide +kernel
theorem dX11_joinLine_78 : decode cX11_joinLine 78 = .ok (.bipush 9, 2) := by decide +kernel
theorem dX11_joinLine_80 : decode cX11_joinLine 80 = .ok (.dup2, 1) := by decide +kernel
theorem dX11_joinLine_81 : decode cX11_joinLine 81 = .ok (.iaload, 1) := by decide +kernel
theorem dX11_joinLine_82 : decode cX11_joinLine 82 = .ok (.iconst 1, 1) := by decide +kernel
theorem dX11_joinLine_83 : decode cX11_joinLine 83 = .ok (.iadd, 1) := by decide +kernel
theorem dX11_joinLine_84 : decode cX11_joinLine 84 = .ok (.iastore, 1) := by decide +kernel
theorem dX11_joinLine_85 : decode cX11_joinLine 85 = .ok (.return_, 1) := by decide +kernel
set_option maxHeartbeats 4000000 in
set_option maxRecDepth 100000 in
theorem m_joinLine (l : Launch) (g : Gx) (h0 : Nat) (m_thrown : Int32) (a_tape : Nat) (m_taped : Int32) (m_size : Int32) (m_at : Int32) (m_end : Int32) (m_token : Int32) (m_whole : Int32) (m_nameSize : Int32) (m_fault : Int32) (m_place : Int32) (m_trouble : Int32) (a_letters : Nat) (m_failed : Int32) (m_hasHouse : Int32) (a_r : Nat) (a_fresh : Nat) (a_st : Nat) (a_undone : Nat) (a_kept : Nat) (m_undos : Int32) (m_images : Int32) (a_from : Nat) (a_begin : Nat) (a_motor : Nat) (a_change : Nat) (a_startFrame : Nat) (a_changeFrame : Nat) (a_lostAt : Nat) (a_blackAt : Nat) (a_slips : Nat) (a_leftArc : Nat) (a_died : Nat) (a_arcs : Nat) (m_bestSum : Int32) (m_nearest : Int32) (m_nearestTown : Int32) (a_there : Nat) (a_backAt : Nat) (a_sorted : Nat) (a_parts : Nat) (m_seed1 : Int32) (m_darkNow : Int32) (d_tape : Nat → Int32) (d_letters : Nat → Int32) (d_fresh : Nat → Int32) (hv_m_size : IV m_size 0 900) (hv_m_end : IV m_end 0 900) (hv_m_nameSize : IV m_nameSize 0 900) (hv_m_failed : IV m_failed 0 1) (hp_d_fresh : RInv d_fresh) (hr_0 : TRI d_fresh) (hc_0 : m_failed = 1 ∨ ((d_fresh 9).toInt ≤ 7)) (hc_1 : m_token = 2 → IV m_nameSize 0 8) : cV l g yX11_joinLine cX11_joinLine 2 8 173 0 0 [.ref h0] [(h0, .inr (11, [.int m_thrown, .ref a_tape, .int m_taped, .int m_size, .int m_at, .int m_end, .int m_token, .int m_whole, .int m_nameSize, .int m_fault, .int m_place, .int m_trouble, .ref a_letters, .int m_failed, .int m_hasHouse, .ref a_r, .ref a_fresh, .ref a_st, .ref a_undone, .ref a_kept, .int m_undos, .int m_images, .ref a_from, .ref a_begin, .ref a_motor, .ref a_change, .ref a_startFrame, .ref a_changeFrame, .ref a_lostAt, .ref a_blackAt, .ref a_slips, .ref a_leftArc, .ref a_died, .ref a_arcs, .int m_bestSum, .int m_nearest, .int m_nearestTown, .ref a_there, .ref a_backAt, .ref a_sorted, .ref a_parts, .int m_seed1, .int m_darkNow])), (a_tape, .inl (g.2.2.1, 900, .inl d_tape)), (a_letters, .inl (g.2.2.1, 8, .inl d_letters)), (a_fresh, .inl (g.2.2.1, 311, .inl d_fresh))] (fun w => ∃ (m_at2 : Int32) (m_end2 : Int32) (m_failed2 : Int32) (m_fault2 : Int32) (d_fresh2 : Nat → Int32) (d_letters2 : Nat → Int32) (m_nameSize2 : Int32) (m_place2 : Int32) (m_token2 : Int32) (m_whole2 : Int32), IV m_end2 0 900 ∧ IV m_failed2 0 1 ∧ IV m_nameSize2 0 900 ∧ RInv d_fresh2 ∧ (m_end.toInt ≤ m_end2.toInt) ∧ (TRI d_fresh2) ∧ (m_token2 = 2 → IV m_nameSize2 0 8) ∧ w = [(h0, .inr (11, [.int m_thrown, .ref a_tape, .int m_taped, .int m_size, .int m_at2, .int m_end2, .int m_token2, .int m_whole2, .int m_nameSize2, .int m_fault2, .int m_place2, .int m_trouble, .ref a_letters, .int m_failed2, .int m_hasHouse, .ref a_r, .ref a_fresh, .ref a_st, .ref a_undone, .ref a_kept, .int m_undos, .int m_images, .ref a_from, .ref a_begin, .ref a_motor, .ref a_change, .ref a_startFrame, .ref a_changeFrame, .ref a_lostAt, .ref a_blackAt, .ref a_slips, .ref a_leftArc, .ref a_died, .ref a_arcs, .int m_bestSum, .int m_nearest, .int m_nearestTown, .ref a_there, .ref a_backAt, .ref a_sorted, .ref a_parts, .int m_seed1, .int m_darkNow])), (a_tape, .inl (g.2.2.1, 900, .inl d_tape)), (a_letters, .inl (g.2.2.1, 8, .inl d_letters2)), (a_fresh, .inl (g.2.2.1, 311, .inl d_fresh2))]) := by
  refine cV.of (by decide) (Nat.le_of_ble_eq_true rfl) ?_
  intro p e s m args below meth c A X hr hi
  refine k_lveq [(0, .ref h0)] rfl ?_
  refine k_aload_n X dX11_joinLine_0 0 rfl ?_
  refine k_get (ci := 11) X inlX11 rfl 13 (by decide) dX11_joinLine_1 mw469 0 rfl rfl ?_
  refine k_if_eq 8 X dX11_joinLine_4 (by decide) (fun h_1 => ?_) (fun h_1 => ?_)
  · skip
    have iv_2 : IV m_failed 0 0 := iv_meet hv_m_failed (iv_e h_1 (show IV 0 0 0 from (by decide))) (by decide) (by decide)
    have hc_3 := hc_0.resolve_left (fun q => iv_eqN q iv_2 (show IV 1 1 1 from (by decide)) (by decide))
    have j_4 : (d_fresh 9).toInt ≤ 7 := hc_3
    refine k_bipush (v := 80) X dX11_joinLine_8 (by decide) ?_
    refine k_iconst (v := 2) X dX11_joinLine_10 (by decide) ?_
    refine k_aload_n X dX11_joinLine_11 0 rfl ?_
    refine k_get (ci := 11) X inlX11 rfl 16 (by decide) dX11_joinLine_12 mw171 0 rfl rfl ?_
    refine k_bipush (v := 9) X dX11_joinLine_15 (by decide) ?_
    refine k_iald X dX11_joinLine_17 3 rfl (by unfold vp_in; decide) ?_
    refine k_nm (fun z_5 ez_5 => ?_)
    have i_6 : z_5.toInt = (d_fresh 9).toInt := by rw [ez_5]; rfl
    have iv_7 : IV z_5 0 7 := by have := rb_9 ez_5 hp_d_fresh; rw [IV]; omega
    refine k_imul X dX11_joinLine_18 ?_
    refine k_nm (fun z_8 ez_8 => ?_)
    have i_9 : z_8.toInt = 2 * z_5.toInt := in_mul ez_8 (by decide) (by decide) iv_7 (by decide) (by decide)
    have iv_10 : IV z_8 0 14 := by have := (show IV 2 2 2 from (by decide)); have := iv_7; rw [IV, i_9]; omega
    refine k_iadd X dX11_joinLine_19 ?_
    refine k_nm (fun z_11 ez_11 => ?_)
    have i_12 : z_11.toInt = 80 + z_8.toInt := in_add ez_11 (show IV 80 80 80 from (by decide)) iv_10 (by decide) (by decide)
    have iv_13 : IV z_11 80 94 := by have := (show IV 80 80 80 from (by decide)); have := iv_10; rw [IV, i_12]; omega
    refine k_istore_n [(1, .int z_11), (0, .ref h0)] X dX11_joinLine_20 (by decide) rfl ?_
    refine k_aload_n X dX11_joinLine_21 1 rfl ?_
    refine k_get (ci := 11) X inlX11 rfl 16 (by decide) dX11_joinLine_22 mw171 0 rfl rfl ?_
    refine k_iload_n X dX11_joinLine_25 0 rfl ?_
    refine k_aload_n X dX11_joinLine_26 1 rfl ?_
    refine k_callVI (n := 0) (As := []) (st := [.int z_11, .ref a_fresh]) X [(h0, .inr (11, [.int m_thrown, .ref a_tape, .int m_taped, .int m_size, .int m_at, .int m_end, .int m_token, .int m_whole, .int m_nameSize, .int m_fault, .int m_place, .int m_trouble, .ref a_letters, .int m_failed, .int m_hasHouse, .ref a_r, .ref a_fresh, .ref a_st, .ref a_undone, .ref a_kept, .int m_undos, .int m_images, .ref a_from, .ref a_begin, .ref a_motor, .ref a_change, .ref a_startFrame, .ref a_changeFrame, .ref a_lostAt, .ref a_blackAt, .ref a_slips, .ref a_leftArc, .ref a_died, .ref a_arcs, .int m_bestSum, .int m_nearest, .int m_nearestTown, .ref a_there, .ref a_backAt, .ref a_sorted, .ref a_parts, .int m_seed1, .int m_darkNow])), (a_tape, .inl (g.2.2.1, 900, .inl d_tape)), (a_letters, .inl (g.2.2.1, 8, .inl d_letters)), (a_fresh, .inl (g.2.2.1, 311, .inl d_fresh))] [] [0, 1, 2, 3] [] (m_reelPassed l g h0 m_thrown a_tape m_taped m_size m_at m_end m_token m_whole m_nameSize m_fault m_place m_trouble a_letters m_failed m_hasHouse a_r a_fresh a_st a_undone a_kept m_undos m_images a_from a_begin a_motor a_change a_startFrame a_changeFrame a_lostAt a_blackAt a_slips a_leftArc a_died a_arcs m_bestSum m_nearest m_nearestTown a_there a_backAt a_sorted a_parts m_seed1 m_darkNow d_tape d_letters d_fresh (iv_w hv_m_size (by decide) (by decide)) (iv_w hv_m_end (by decide) (by decide)) (iv_w hv_m_nameSize (by decide) (by decide)) (iv_w iv_2 (by decide) (by decide)) hp_d_fresh hc_1) dX11_joinLine_27 mw571 mw572 mw573 mw5 mw574 rfl 11 rfl rfl 0 _ rfl (by unfold yOk; decide) rfl (Nat.le_of_ble_eq_true rfl) (Nat.le_of_ble_eq_true rfl) (Nat.le_of_ble_eq_true rfl) (Nat.le_of_ble_eq_true rfl) (Nat.le_of_ble_eq_true rfl) rfl rfl (by decide) rfl (by decide) (by decide) ?_
    rintro r_23 w ⟨m_at2_14, m_end2_15, m_failed2_16, m_fault2_17, d_letters2_18, m_nameSize2_19, m_place2_20, m_token2_21, m_whole2_22, iv_24, iv_25, iv_26, iv_27, hq_28, hk_29, rfl⟩
    refine k_ws [(h0, .inr (11, [.int m_thrown, .ref a_tape, .int m_taped, .int m_size, .int m_at2_14, .int m_end2_15, .int m_token2_21, .int m_whole2_22, .int m_nameSize2_19, .int m_fault2_17, .int m_place2_20, .int m_trouble, .ref a_letters, .int m_failed2_16, .int m_hasHouse, .ref a_r, .ref a_fresh, .ref a_st, .ref a_undone, .ref a_kept, .int m_undos, .int m_images, .ref a_from, .ref a_begin, .ref a_motor, .ref a_change, .ref a_startFrame, .ref a_changeFrame, .ref a_lostAt, .ref a_blackAt, .ref a_slips, .ref a_leftArc, .ref a_died, .ref a_arcs, .int m_bestSum, .int m_nearest, .int m_nearestTown, .ref a_there, .ref a_backAt, .ref a_sorted, .ref a_parts, .int m_seed1, .int m_darkNow])), (a_tape, .inl (g.2.2.1, 900, .inl d_tape)), (a_letters, .inl (g.2.2.1, 8, .inl d_letters2_18)), (a_fresh, .inl (g.2.2.1, 311, .inl d_fresh))] rfl ?_
    refine k_iast [(h0, .inr (11, [.int m_thrown, .ref a_tape, .int m_taped, .int m_size, .int m_at2_14, .int m_end2_15, .int m_token2_21, .int m_whole2_22, .int m_nameSize2_19, .int m_fault2_17, .int m_place2_20, .int m_trouble, .ref a_letters, .int m_failed2_16, .int m_hasHouse, .ref a_r, .ref a_fresh, .ref a_st, .ref a_undone, .ref a_kept, .int m_undos, .int m_images, .ref a_from, .ref a_begin, .ref a_motor, .ref a_change, .ref a_startFrame, .ref a_changeFrame, .ref a_lostAt, .ref a_blackAt, .ref a_slips, .ref a_leftArc, .ref a_died, .ref a_arcs, .int m_bestSum, .int m_nearest, .int m_nearestTown, .ref a_there, .ref a_backAt, .ref a_sorted, .ref a_parts, .int m_seed1, .int m_darkNow])), (a_tape, .inl (g.2.2.1, 900, .inl d_tape)), (a_letters, .inl (g.2.2.1, 8, .inl d_letters2_18)), (a_fresh, .inl (g.2.2.1, 311, .inl (upd d_fresh (z_11 : Int32).toNatClampNeg r_23)))] X dX11_joinLine_30 3 rfl (iv_in iv_13 (by decide) (by decide)) rfl ?_
    have i_32 : z_11.toInt = 80 + 2 * z_5.toInt := by omega
    refine (fun hg : ∀ fa_30 : Nat → Int32, fa_30 = upd d_fresh (z_11 : Int32).toNatClampNeg r_23 → RInv fa_30 → K16 d_fresh fa_30 → Wk p l e _ s m args below meth c _ A g _ _ _ [(h0, .inr (11, [.int m_thrown, .ref a_tape, .int m_taped, .int m_size, .int m_at2_14, .int m_end2_15, .int m_token2_21, .int m_whole2_22, .int m_nameSize2_19, .int m_fault2_17, .int m_place2_20, .int m_trouble, .ref a_letters, .int m_failed2_16, .int m_hasHouse, .ref a_r, .ref a_fresh, .ref a_st, .ref a_undone, .ref a_kept, .int m_undos, .int m_images, .ref a_from, .ref a_begin, .ref a_motor, .ref a_change, .ref a_startFrame, .ref a_changeFrame, .ref a_lostAt, .ref a_blackAt, .ref a_slips, .ref a_leftArc, .ref a_died, .ref a_arcs, .int m_bestSum, .int m_nearest, .int m_nearestTown, .ref a_there, .ref a_backAt, .ref a_sorted, .ref a_parts, .int m_seed1, .int m_darkNow])), (a_tape, .inl (g.2.2.1, 900, .inl d_tape)), (a_letters, .inl (g.2.2.1, 8, .inl d_letters2_18)), (a_fresh, .inl (g.2.2.1, 311, .inl fa_30))] _ _ _ => hg _ rfl (w_rb_80_2 hp_d_fresh i_32 (iv_w iv_7 (by decide) (by decide)) (iv_w iv_27 (by decide) (by decide))) (k16_u (z := z_11) (by have := iv_13; omega))) (fun fa_30 eq_34 hR_31 hk_33 => ?_)
    have ek_35 : z_5 = fa_30 (9 : Int32).toNatClampNeg := ez_5.trans (hk_33 _ (by decide)).symm
    have hT_36 : TRI fa_30 := by have := iv_13; exact tri_z (z := z_11) eq_34 hr_0 hp_d_fresh (by omega) (by omega) (by omega) (by omega) (by omega)
    refine k_aload_n X dX11_joinLine_31 1 rfl ?_
    refine k_get (ci := 11) X inlX11 rfl 13 (by decide) dX11_joinLine_32 mw469 0 rfl rfl ?_
    refine k_if_ne 49 X dX11_joinLine_35 (by decide) (fun h_37 => ?_) (fun h_37 => ?_)
    · skip
      have iv_38 : IV m_failed2_16 1 1 := iv_neL h_37 iv_25 (show IV 0 0 0 from (by decide)) (by decide)
      refine k_aload_n X dX11_joinLine_49 1 rfl ?_
      refine k_get (ci := 11) X inlX11 rfl 16 (by decide) dX11_joinLine_50 mw171 0 rfl rfl ?_
      refine k_iload_n X dX11_joinLine_53 0 rfl ?_
      refine k_iconst (v := 1) X dX11_joinLine_54 (by decide) ?_
      refine k_iadd X dX11_joinLine_55 ?_
      refine k_nm (fun z_39 ez_39 => ?_)
      have i_40 : z_39.toInt = z_11.toInt + 1 := in_add ez_39 iv_13 (show IV 1 1 1 from (by decide)) (by decide) (by decide)
      have iv_41 : IV z_39 81 95 := by have := iv_13; have := (show IV 1 1 1 from (by decide)); rw [IV, i_40]; omega
      refine k_aload_n X dX11_joinLine_56 1 rfl ?_
      refine k_ldcwS (tx := "lacks") X dX11_joinLine_57 (by decide +kernel) (fun sr_42 hsr_42 => ?_)
      refine k_iconst (v := 1) X dX11_joinLine_60 (by decide) ?_
      refine k_bipush (v := 99) X dX11_joinLine_61 (by decide) ?_
      refine k_callVI (n := 3) (As := [.ref sr_42, .int 1, .int 99]) (st := [.int z_39, .ref a_fresh]) X [(h0, .inr (11, [.int m_thrown, .ref a_tape, .int m_taped, .int m_size, .int m_at2_14, .int m_end2_15, .int m_token2_21, .int m_whole2_22, .int m_nameSize2_19, .int m_fault2_17, .int m_place2_20, .int m_trouble, .ref a_letters, .int m_failed2_16, .int m_hasHouse, .ref a_r, .ref a_fresh, .ref a_st, .ref a_undone, .ref a_kept, .int m_undos, .int m_images, .ref a_from, .ref a_begin, .ref a_motor, .ref a_change, .ref a_startFrame, .ref a_changeFrame, .ref a_lostAt, .ref a_blackAt, .ref a_slips, .ref a_leftArc, .ref a_died, .ref a_arcs, .int m_bestSum, .int m_nearest, .int m_nearestTown, .ref a_there, .ref a_backAt, .ref a_sorted, .ref a_parts, .int m_seed1, .int m_darkNow])), (a_tape, .inl (g.2.2.1, 900, .inl d_tape)), (a_letters, .inl (g.2.2.1, 8, .inl d_letters2_18))] [(a_fresh, .inl (g.2.2.1, 311, .inl fa_30))] [0, 1, 2] [3] (m_after l g h0 sr_42 1 99 m_thrown a_tape m_taped m_size m_at2_14 m_end2_15 m_token2_21 m_whole2_22 m_nameSize2_19 m_fault2_17 m_place2_20 m_trouble a_letters m_failed2_16 m_hasHouse a_r a_fresh a_st a_undone a_kept m_undos m_images a_from a_begin a_motor a_change a_startFrame a_changeFrame a_lostAt a_blackAt a_slips a_leftArc a_died a_arcs m_bestSum m_nearest m_nearestTown a_there a_backAt a_sorted a_parts m_seed1 m_darkNow d_tape d_letters2_18 ("lacks") (iv_w hv_m_size (by decide) (by decide)) (iv_w iv_24 (by decide) (by decide)) (iv_w iv_26 (by decide) (by decide)) (iv_w iv_38 (by decide) (by decide)) hsr_42 hk_29) dX11_joinLine_63 mw523 mw524 mw525 mw5 mw526 rfl 11 rfl rfl 0 _ rfl (by unfold yOk; decide) rfl (Nat.le_of_ble_eq_true rfl) (Nat.le_of_ble_eq_true rfl) (Nat.le_of_ble_eq_true rfl) (Nat.le_of_ble_eq_true rfl) (Nat.le_of_ble_eq_true rfl) rfl rfl (by decide) rfl (by decide) (by decide) ?_
      rintro r_52 w ⟨m_at2_43, m_end2_44, m_failed2_45, m_fault2_46, d_letters2_47, m_nameSize2_48, m_place2_49, m_token2_50, m_whole2_51, iv_53, iv_54, iv_55, hq_56, hq_57, hk_58, rfl⟩
      refine k_ws [(a_fresh, .inl (g.2.2.1, 311, .inl fa_30)), (h0, .inr (11, [.int m_thrown, .ref a_tape, .int m_taped, .int m_size, .int m_at2_43, .int m_end2_44, .int m_token2_50, .int m_whole2_51, .int m_nameSize2_48, .int m_fault2_46, .int m_place2_49, .int m_trouble, .ref a_letters, .int m_failed2_45, .int m_hasHouse, .ref a_r, .ref a_fresh, .ref a_st, .ref a_undone, .ref a_kept, .int m_undos, .int m_images, .ref a_from, .ref a_begin, .ref a_motor, .ref a_change, .ref a_startFrame, .ref a_changeFrame, .ref a_lostAt, .ref a_blackAt, .ref a_slips, .ref a_leftArc, .ref a_died, .ref a_arcs, .int m_bestSum, .int m_nearest, .int m_nearestTown, .ref a_there, .ref a_backAt, .ref a_sorted, .ref a_parts, .int m_seed1, .int m_darkNow])), (a_tape, .inl (g.2.2.1, 900, .inl d_tape)), (a_letters, .inl (g.2.2.1, 8, .inl d_letters2_47))] rfl ?_
      have e_59 : (1 : Int32).toInt = 1 := by decide
      have e_60 : (99 : Int32).toInt = 99 := by decide
      have iv_61 : IV r_52 1 99 := by have := (show IV 1 1 1 from (by decide)); have := (show IV 99 99 99 from (by decide)); rw [IV]; omega
      refine k_iast [(a_fresh, .inl (g.2.2.1, 311, .inl (upd fa_30 (z_39 : Int32).toNatClampNeg r_52))), (h0, .inr (11, [.int m_thrown, .ref a_tape, .int m_taped, .int m_size, .int m_at2_43, .int m_end2_44, .int m_token2_50, .int m_whole2_51, .int m_nameSize2_48, .int m_fault2_46, .int m_place2_49, .int m_trouble, .ref a_letters, .int m_failed2_45, .int m_hasHouse, .ref a_r, .ref a_fresh, .ref a_st, .ref a_undone, .ref a_kept, .int m_undos, .int m_images, .ref a_from, .ref a_begin, .ref a_motor, .ref a_change, .ref a_startFrame, .ref a_changeFrame, .ref a_lostAt, .ref a_blackAt, .ref a_slips, .ref a_leftArc, .ref a_died, .ref a_arcs, .int m_bestSum, .int m_nearest, .int m_nearestTown, .ref a_there, .ref a_backAt, .ref a_sorted, .ref a_parts, .int m_seed1, .int m_darkNow])), (a_tape, .inl (g.2.2.1, 900, .inl d_tape)), (a_letters, .inl (g.2.2.1, 8, .inl d_letters2_47))] X dX11_joinLine_66 0 rfl (iv_in iv_41 (by decide) (by decide)) rfl ?_
      have i_64 : z_39.toInt = 81 + 2 * z_5.toInt := by omega
      refine (fun hg : ∀ fa_62 : Nat → Int32, fa_62 = upd fa_30 (z_39 : Int32).toNatClampNeg r_52 → RInv fa_62 → K16 fa_30 fa_62 → Wk p l e _ s m args below meth c _ A g _ _ _ [(a_fresh, .inl (g.2.2.1, 311, .inl fa_62)), (h0, .inr (11, [.int m_thrown, .ref a_tape, .int m_taped, .int m_size, .int m_at2_43, .int m_end2_44, .int m_token2_50, .int m_whole2_51, .int m_nameSize2_48, .int m_fault2_46, .int m_place2_49, .int m_trouble, .ref a_letters, .int m_failed2_45, .int m_hasHouse, .ref a_r, .ref a_fresh, .ref a_st, .ref a_undone, .ref a_kept, .int m_undos, .int m_images, .ref a_from, .ref a_begin, .ref a_motor, .ref a_change, .ref a_startFrame, .ref a_changeFrame, .ref a_lostAt, .ref a_blackAt, .ref a_slips, .ref a_leftArc, .ref a_died, .ref a_arcs, .int m_bestSum, .int m_nearest, .int m_nearestTown, .ref a_there, .ref a_backAt, .ref a_sorted, .ref a_parts, .int m_seed1, .int m_darkNow])), (a_tape, .inl (g.2.2.1, 900, .inl d_tape)), (a_letters, .inl (g.2.2.1, 8, .inl d_letters2_47))] _ _ _ => hg _ rfl (w_fr_81_2 hR_31 i_64 (iv_w iv_7 (by decide) (by decide))) (k16_u (z := z_39) (by have := iv_41; omega))) (fun fa_62 eq_66 hR_63 hk_65 => ?_)
      have ek_67 : z_5 = fa_62 (9 : Int32).toNatClampNeg := ek_35.trans (hk_65 _ (by decide)).symm
      have hT_68 : TRI fa_62 := by have := iv_41; exact tri_z (z := z_39) eq_66 hT_36 hR_31 (by omega) (by omega) (by omega) (by omega) (by omega)
      refine k_aload_n X dX11_joinLine_67 1 rfl ?_
      refine k_get (ci := 11) X inlX11 rfl 13 (by decide) dX11_joinLine_68 mw469 1 rfl rfl ?_
      refine k_if_ne 85 X dX11_joinLine_71 (by decide) (fun h_69 => ?_) (fun h_69 => ?_)
      · skip
        have iv_70 : IV m_failed2_45 1 1 := iv_neL h_69 iv_54 (show IV 0 0 0 from (by decide)) (by decide)
        exact k_vret X hr dX11_joinLine_85 (Nat.le_of_ble_eq_true rfl) (Nat.le_of_ble_eq_true rfl) [1, 2, 3, 0] (by decide) rfl rfl ⟨m_at2_43, m_end2_44, m_failed2_45, m_fault2_46, fa_62, d_letters2_47, m_nameSize2_48, m_place2_49, m_token2_50, m_whole2_51, (iv_w iv_53 (by decide) (by decide)), (iv_w iv_70 (by decide) (by decide)), (iv_w iv_55 (by decide) (by decide)), hR_63, (by omega), hT_68, hk_58, rfl⟩
      · skip
        have iv_71 : IV m_failed2_45 0 0 := iv_meet iv_54 (iv_e h_69 (show IV 0 0 0 from (by decide))) (by decide) (by decide)
        refine k_aload_n X dX11_joinLine_74 1 rfl ?_
        refine k_get (ci := 11) X inlX11 rfl 16 (by decide) dX11_joinLine_75 mw171 1 rfl rfl ?_
        refine k_bipush (v := 9) X dX11_joinLine_78 (by decide) ?_
        refine k_dup2 X dX11_joinLine_80 rfl rfl ?_
        refine k_iald X dX11_joinLine_81 0 rfl (by unfold vp_in; decide) ?_
        refine k_to z_5 ek_67.symm ?_
        refine k_iconst (v := 1) X dX11_joinLine_82 (by decide) ?_
        refine k_iadd X dX11_joinLine_83 ?_
        refine k_nm (fun z_72 ez_72 => ?_)
        have i_73 : z_72.toInt = z_5.toInt + 1 := in_add ez_72 iv_7 (show IV 1 1 1 from (by decide)) (by decide) (by decide)
        have iv_74 : IV z_72 1 8 := by have := iv_7; have := (show IV 1 1 1 from (by decide)); rw [IV, i_73]; omega
        refine k_iast [(a_fresh, .inl (g.2.2.1, 311, .inl (upd fa_62 (9 : Int32).toNatClampNeg z_72))), (h0, .inr (11, [.int m_thrown, .ref a_tape, .int m_taped, .int m_size, .int m_at2_43, .int m_end2_44, .int m_token2_50, .int m_whole2_51, .int m_nameSize2_48, .int m_fault2_46, .int m_place2_49, .int m_trouble, .ref a_letters, .int m_failed2_45, .int m_hasHouse, .ref a_r, .ref a_fresh, .ref a_st, .ref a_undone, .ref a_kept, .int m_undos, .int m_images, .ref a_from, .ref a_begin, .ref a_motor, .ref a_change, .ref a_startFrame, .ref a_changeFrame, .ref a_lostAt, .ref a_blackAt, .ref a_slips, .ref a_leftArc, .ref a_died, .ref a_arcs, .int m_bestSum, .int m_nearest, .int m_nearestTown, .ref a_there, .ref a_backAt, .ref a_sorted, .ref a_parts, .int m_seed1, .int m_darkNow])), (a_tape, .inl (g.2.2.1, 900, .inl d_tape)), (a_letters, .inl (g.2.2.1, 8, .inl d_letters2_47))] X dX11_joinLine_84 0 rfl (by unfold vp_in; decide) rfl ?_
        refine (fun hg : ∀ fa_75 : Nat → Int32, fa_75 = upd fa_62 (9 : Int32).toNatClampNeg z_72 → RInv fa_75 → Wk p l e _ s m args below meth c _ A g _ _ _ [(a_fresh, .inl (g.2.2.1, 311, .inl fa_75)), (h0, .inr (11, [.int m_thrown, .ref a_tape, .int m_taped, .int m_size, .int m_at2_43, .int m_end2_44, .int m_token2_50, .int m_whole2_51, .int m_nameSize2_48, .int m_fault2_46, .int m_place2_49, .int m_trouble, .ref a_letters, .int m_failed2_45, .int m_hasHouse, .ref a_r, .ref a_fresh, .ref a_st, .ref a_undone, .ref a_kept, .int m_undos, .int m_images, .ref a_from, .ref a_begin, .ref a_motor, .ref a_change, .ref a_startFrame, .ref a_changeFrame, .ref a_lostAt, .ref a_blackAt, .ref a_slips, .ref a_leftArc, .ref a_died, .ref a_arcs, .int m_bestSum, .int m_nearest, .int m_nearestTown, .ref a_there, .ref a_backAt, .ref a_sorted, .ref a_parts, .int m_seed1, .int m_darkNow])), (a_tape, .inl (g.2.2.1, 900, .inl d_tape)), (a_letters, .inl (g.2.2.1, 8, .inl d_letters2_47))] _ _ _ => hg _ rfl (w_rb_9 hR_63 (iv_w iv_74 (by decide) (by decide)))) (fun fa_75 eq_78 hR_76 => ?_)
        have hT_79 : TRI fa_75 := by rw [eq_78]; exact tri_n (z := 9) hT_68 hR_63 (by decide) (by decide) (by decide) (by decide)
        exact k_vret X hr dX11_joinLine_85 (Nat.le_of_ble_eq_true rfl) (Nat.le_of_ble_eq_true rfl) [1, 2, 3, 0] (by decide) rfl rfl ⟨m_at2_43, m_end2_44, m_failed2_45, m_fault2_46, fa_75, d_letters2_47, m_nameSize2_48, m_place2_49, m_token2_50, m_whole2_51, (iv_w iv_53 (by decide) (by decide)), (iv_w iv_71 (by decide) (by decide)), (iv_w iv_55 (by decide) (by decide)), hR_76, (by omega), hT_79, hk_58, rfl⟩
    · skip
      have iv_80 : IV m_failed2_16 0 0 := iv_meet iv_25 (iv_e h_37 (show IV 0 0 0 from (by decide))) (by decide) (by decide)
      refine k_aload_n X dX11_joinLine_38 1 rfl ?_
      refine k_aload_n X dX11_joinLine_39 1 rfl ?_
      refine k_get (ci := 11) X inlX11 rfl 16 (by decide) dX11_joinLine_40 mw171 0 rfl rfl ?_
      refine k_iload_n X dX11_joinLine_43 0 rfl ?_
      refine k_iald X dX11_joinLine_44 3 rfl (iv_in iv_13 (by decide) (by decide)) ?_
      refine k_nm (fun z_81 ez_81 => ?_)
      have i_82 : z_11.toInt = 80 + 2 * z_5.toInt := by omega
      have iv_83 : IV z_81 0 7 := rb_80_2 ez_81 hR_31 i_82 (iv_w iv_7 (by decide) (by decide))
      refine k_callVI (n := 1) (As := [.int z_81]) (st := []) X [(h0, .inr (11, [.int m_thrown, .ref a_tape, .int m_taped, .int m_size, .int m_at2_14, .int m_end2_15, .int m_token2_21, .int m_whole2_22, .int m_nameSize2_19, .int m_fault2_17, .int m_place2_20, .int m_trouble, .ref a_letters, .int m_failed2_16, .int m_hasHouse, .ref a_r, .ref a_fresh, .ref a_st, .ref a_undone, .ref a_kept, .int m_undos, .int m_images, .ref a_from, .ref a_begin, .ref a_motor, .ref a_change, .ref a_startFrame, .ref a_changeFrame, .ref a_lostAt, .ref a_blackAt, .ref a_slips, .ref a_leftArc, .ref a_died, .ref a_arcs, .int m_bestSum, .int m_nearest, .int m_nearestTown, .ref a_there, .ref a_backAt, .ref a_sorted, .ref a_parts, .int m_seed1, .int m_darkNow])), (a_tape, .inl (g.2.2.1, 900, .inl d_tape)), (a_letters, .inl (g.2.2.1, 8, .inl d_letters2_18)), (a_fresh, .inl (g.2.2.1, 311, .inl fa_30))] [] [0, 1, 2, 3] [] (m_frameOf l g h0 z_81 m_thrown a_tape m_taped m_size m_at2_14 m_end2_15 m_token2_21 m_whole2_22 m_nameSize2_19 m_fault2_17 m_place2_20 m_trouble a_letters m_failed2_16 m_hasHouse a_r a_fresh a_st a_undone a_kept m_undos m_images a_from a_begin a_motor a_change a_startFrame a_changeFrame a_lostAt a_blackAt a_slips a_leftArc a_died a_arcs m_bestSum m_nearest m_nearestTown a_there a_backAt a_sorted a_parts m_seed1 m_darkNow d_tape d_letters2_18 fa_30 (iv_w iv_83 (by decide) (by decide)) (iv_w hv_m_size (by decide) (by decide)) (iv_w iv_24 (by decide) (by decide)) (iv_w iv_26 (by decide) (by decide)) (iv_w iv_80 (by decide) (by decide)) hR_31 hk_29) dX11_joinLine_45 mw579 mw580 mw581 mw5 mw582 rfl 11 rfl rfl 0 _ rfl (by unfold yOk; decide) rfl (Nat.le_of_ble_eq_true rfl) (Nat.le_of_ble_eq_true rfl) (Nat.le_of_ble_eq_true rfl) (Nat.le_of_ble_eq_true rfl) (Nat.le_of_ble_eq_true rfl) rfl rfl (by decide) rfl (by decide) (by decide) ?_
      rintro r_93 w ⟨m_at2_84, m_end2_85, m_failed2_86, m_fault2_87, d_letters2_88, m_nameSize2_89, m_place2_90, m_token2_91, m_whole2_92, iv_94, iv_95, iv_96, hq_97, hk_98, rfl⟩
      refine k_ws [(h0, .inr (11, [.int m_thrown, .ref a_tape, .int m_taped, .int m_size, .int m_at2_84, .int m_end2_85, .int m_token2_91, .int m_whole2_92, .int m_nameSize2_89, .int m_fault2_87, .int m_place2_90, .int m_trouble, .ref a_letters, .int m_failed2_86, .int m_hasHouse, .ref a_r, .ref a_fresh, .ref a_st, .ref a_undone, .ref a_kept, .int m_undos, .int m_images, .ref a_from, .ref a_begin, .ref a_motor, .ref a_change, .ref a_startFrame, .ref a_changeFrame, .ref a_lostAt, .ref a_blackAt, .ref a_slips, .ref a_leftArc, .ref a_died, .ref a_arcs, .int m_bestSum, .int m_nearest, .int m_nearestTown, .ref a_there, .ref a_backAt, .ref a_sorted, .ref a_parts, .int m_seed1, .int m_darkNow])), (a_tape, .inl (g.2.2.1, 900, .inl d_tape)), (a_letters, .inl (g.2.2.1, 8, .inl d_letters2_88)), (a_fresh, .inl (g.2.2.1, 311, .inl fa_30))] rfl ?_
      refine k_pop X dX11_joinLine_48 rfl ?_
      refine k_aload_n X dX11_joinLine_49 1 rfl ?_
      refine k_get (ci := 11) X inlX11 rfl 16 (by decide) dX11_joinLine_50 mw171 0 rfl rfl ?_
      refine k_iload_n X dX11_joinLine_53 0 rfl ?_
      refine k_iconst (v := 1) X dX11_joinLine_54 (by decide) ?_
      refine k_iadd X dX11_joinLine_55 ?_
      refine k_nm (fun z_99 ez_99 => ?_)
      have i_100 : z_99.toInt = z_11.toInt + 1 := in_add ez_99 iv_13 (show IV 1 1 1 from (by decide)) (by decide) (by decide)
      have iv_101 : IV z_99 81 95 := by have := iv_13; have := (show IV 1 1 1 from (by decide)); rw [IV, i_100]; omega
      refine k_aload_n X dX11_joinLine_56 1 rfl ?_
      refine k_ldcwS (tx := "lacks") X dX11_joinLine_57 (by decide +kernel) (fun sr_102 hsr_102 => ?_)
      refine k_iconst (v := 1) X dX11_joinLine_60 (by decide) ?_
      refine k_bipush (v := 99) X dX11_joinLine_61 (by decide) ?_
      refine k_callVI (n := 3) (As := [.ref sr_102, .int 1, .int 99]) (st := [.int z_99, .ref a_fresh]) X [(h0, .inr (11, [.int m_thrown, .ref a_tape, .int m_taped, .int m_size, .int m_at2_84, .int m_end2_85, .int m_token2_91, .int m_whole2_92, .int m_nameSize2_89, .int m_fault2_87, .int m_place2_90, .int m_trouble, .ref a_letters, .int m_failed2_86, .int m_hasHouse, .ref a_r, .ref a_fresh, .ref a_st, .ref a_undone, .ref a_kept, .int m_undos, .int m_images, .ref a_from, .ref a_begin, .ref a_motor, .ref a_change, .ref a_startFrame, .ref a_changeFrame, .ref a_lostAt, .ref a_blackAt, .ref a_slips, .ref a_leftArc, .ref a_died, .ref a_arcs, .int m_bestSum, .int m_nearest, .int m_nearestTown, .ref a_there, .ref a_backAt, .ref a_sorted, .ref a_parts, .int m_seed1, .int m_darkNow])), (a_tape, .inl (g.2.2.1, 900, .inl d_tape)), (a_letters, .inl (g.2.2.1, 8, .inl d_letters2_88))] [(a_fresh, .inl (g.2.2.1, 311, .inl fa_30))] [0, 1, 2] [3] (m_after l g h0 sr_102 1 99 m_thrown a_tape m_taped m_size m_at2_84 m_end2_85 m_token2_91 m_whole2_92 m_nameSize2_89 m_fault2_87 m_place2_90 m_trouble a_letters m_failed2_86 m_hasHouse a_r a_fresh a_st a_undone a_kept m_undos m_images a_from a_begin a_motor a_change a_startFrame a_changeFrame a_lostAt a_blackAt a_slips a_leftArc a_died a_arcs m_bestSum m_nearest m_nearestTown a_there a_backAt a_sorted a_parts m_seed1 m_darkNow d_tape d_letters2_88 ("lacks") (iv_w hv_m_size (by decide) (by decide)) (iv_w iv_94 (by decide) (by decide)) (iv_w iv_96 (by decide) (by decide)) (iv_w iv_95 (by decide) (by decide)) hsr_102 hk_98) dX11_joinLine_63 mw523 mw524 mw525 mw5 mw526 rfl 11 rfl rfl 0 _ rfl (by unfold yOk; decide) rfl (Nat.le_of_ble_eq_true rfl) (Nat.le_of_ble_eq_true rfl) (Nat.le_of_ble_eq_true rfl) (Nat.le_of_ble_eq_true rfl) (Nat.le_of_ble_eq_true rfl) rfl rfl (by decide) rfl (by decide) (by decide) ?_
      rintro r_112 w ⟨m_at2_103, m_end2_104, m_failed2_105, m_fault2_106, d_letters2_107, m_nameSize2_108, m_place2_109, m_token2_110, m_whole2_111, iv_113, iv_114, iv_115, hq_116, hq_117, hk_118, rfl⟩
      refine k_ws [(a_fresh, .inl (g.2.2.1, 311, .inl fa_30)), (h0, .inr (11, [.int m_thrown, .ref a_tape, .int m_taped, .int m_size, .int m_at2_103, .int m_end2_104, .int m_token2_110, .int m_whole2_111, .int m_nameSize2_108, .int m_fault2_106, .int m_place2_109, .int m_trouble, .ref a_letters, .int m_failed2_105, .int m_hasHouse, .ref a_r, .ref a_fresh, .ref a_st, .ref a_undone, .ref a_kept, .int m_undos, .int m_images, .ref a_from, .ref a_begin, .ref a_motor, .ref a_change, .ref a_startFrame, .ref a_changeFrame, .ref a_lostAt, .ref a_blackAt, .ref a_slips, .ref a_leftArc, .ref a_died, .ref a_arcs, .int m_bestSum, .int m_nearest, .int m_nearestTown, .ref a_there, .ref a_backAt, .ref a_sorted, .ref a_parts, .int m_seed1, .int m_darkNow])), (a_tape, .inl (g.2.2.1, 900, .inl d_tape)), (a_letters, .inl (g.2.2.1, 8, .inl d_letters2_107))] rfl ?_
      have e_119 : (1 : Int32).toInt = 1 := by decide
      have e_120 : (99 : Int32).toInt = 99 := by decide
      have iv_121 : IV r_112 1 99 := by have := (show IV 1 1 1 from (by decide)); have := (show IV 99 99 99 from (by decide)); rw [IV]; omega
      refine k_iast [(a_fresh, .inl (g.2.2.1, 311, .inl (upd fa_30 (z_99 : Int32).toNatClampNeg r_112))), (h0, .inr (11, [.int m_thrown, .ref a_tape, .int m_taped, .int m_size, .int m_at2_103, .int m_end2_104, .int m_token2_110, .int m_whole2_111, .int m_nameSize2_108, .int m_fault2_106, .int m_place2_109, .int m_trouble, .ref a_letters, .int m_failed2_105, .int m_hasHouse, .ref a_r, .ref a_fresh, .ref a_st, .ref a_undone, .ref a_kept, .int m_undos, .int m_images, .ref a_from, .ref a_begin, .ref a_motor, .ref a_change, .ref a_startFrame, .ref a_changeFrame, .ref a_lostAt, .ref a_blackAt, .ref a_slips, .ref a_leftArc, .ref a_died, .ref a_arcs, .int m_bestSum, .int m_nearest, .int m_nearestTown, .ref a_there, .ref a_backAt, .ref a_sorted, .ref a_parts, .int m_seed1, .int m_darkNow])), (a_tape, .inl (g.2.2.1, 900, .inl d_tape)), (a_letters, .inl (g.2.2.1, 8, .inl d_letters2_107))] X dX11_joinLine_66 0 rfl (iv_in iv_101 (by decide) (by decide)) rfl ?_
      have i_124 : z_99.toInt = 81 + 2 * z_5.toInt := by omega
      refine (fun hg : ∀ fa_122 : Nat → Int32, fa_122 = upd fa_30 (z_99 : Int32).toNatClampNeg r_112 → RInv fa_122 → K16 fa_30 fa_122 → Wk p l e _ s m args below meth c _ A g _ _ _ [(a_fresh, .inl (g.2.2.1, 311, .inl fa_122)), (h0, .inr (11, [.int m_thrown, .ref a_tape, .int m_taped, .int m_size, .int m_at2_103, .int m_end2_104, .int m_token2_110, .int m_whole2_111, .int m_nameSize2_108, .int m_fault2_106, .int m_place2_109, .int m_trouble, .ref a_letters, .int m_failed2_105, .int m_hasHouse, .ref a_r, .ref a_fresh, .ref a_st, .ref a_undone, .ref a_kept, .int m_undos, .int m_images, .ref a_from, .ref a_begin, .ref a_motor, .ref a_change, .ref a_startFrame, .ref a_changeFrame, .ref a_lostAt, .ref a_blackAt, .ref a_slips, .ref a_leftArc, .ref a_died, .ref a_arcs, .int m_bestSum, .int m_nearest, .int m_nearestTown, .ref a_there, .ref a_backAt, .ref a_sorted, .ref a_parts, .int m_seed1, .int m_darkNow])), (a_tape, .inl (g.2.2.1, 900, .inl d_tape)), (a_letters, .inl (g.2.2.1, 8, .inl d_letters2_107))] _ _ _ => hg _ rfl (w_fr_81_2 hR_31 i_124 (iv_w iv_7 (by decide) (by decide))) (k16_u (z := z_99) (by have := iv_101; omega))) (fun fa_122 eq_126 hR_123 hk_125 => ?_)
      have ek_127 : z_5 = fa_122 (9 : Int32).toNatClampNeg := ek_35.trans (hk_125 _ (by decide)).symm
      have hT_128 : TRI fa_122 := by have := iv_101; exact tri_z (z := z_99) eq_126 hT_36 hR_31 (by omega) (by omega) (by omega) (by omega) (by omega)
      refine k_aload_n X dX11_joinLine_67 1 rfl ?_
      refine k_get (ci := 11) X inlX11 rfl 13 (by decide) dX11_joinLine_68 mw469 1 rfl rfl ?_
      refine k_if_ne 85 X dX11_joinLine_71 (by decide) (fun h_129 => ?_) (fun h_129 => ?_)
      · skip
        have iv_130 : IV m_failed2_105 1 1 := iv_neL h_129 iv_114 (show IV 0 0 0 from (by decide)) (by decide)
        exact k_vret X hr dX11_joinLine_85 (Nat.le_of_ble_eq_true rfl) (Nat.le_of_ble_eq_true rfl) [1, 2, 3, 0] (by decide) rfl rfl ⟨m_at2_103, m_end2_104, m_failed2_105, m_fault2_106, fa_122, d_letters2_107, m_nameSize2_108, m_place2_109, m_token2_110, m_whole2_111, (iv_w iv_113 (by decide) (by decide)), (iv_w iv_130 (by decide) (by decide)), (iv_w iv_115 (by decide) (by decide)), hR_123, (by omega), hT_128, hk_118, rfl⟩
      · skip
        have iv_131 : IV m_failed2_105 0 0 := iv_meet iv_114 (iv_e h_129 (show IV 0 0 0 from (by decide))) (by decide) (by decide)
        refine k_aload_n X dX11_joinLine_74 1 rfl ?_
        refine k_get (ci := 11) X inlX11 rfl 16 (by decide) dX11_joinLine_75 mw171 1 rfl rfl ?_
        refine k_bipush (v := 9) X dX11_joinLine_78 (by decide) ?_
        refine k_dup2 X dX11_joinLine_80 rfl rfl ?_
        refine k_iald X dX11_joinLine_81 0 rfl (by unfold vp_in; decide) ?_
        refine k_to z_5 ek_127.symm ?_
        refine k_iconst (v := 1) X dX11_joinLine_82 (by decide) ?_
        refine k_iadd X dX11_joinLine_83 ?_
        refine k_nm (fun z_132 ez_132 => ?_)
        have i_133 : z_132.toInt = z_5.toInt + 1 := in_add ez_132 iv_7 (show IV 1 1 1 from (by decide)) (by decide) (by decide)
        have iv_134 : IV z_132 1 8 := by have := iv_7; have := (show IV 1 1 1 from (by decide)); rw [IV, i_133]; omega
        refine k_iast [(a_fresh, .inl (g.2.2.1, 311, .inl (upd fa_122 (9 : Int32).toNatClampNeg z_132))), (h0, .inr (11, [.int m_thrown, .ref a_tape, .int m_taped, .int m_size, .int m_at2_103, .int m_end2_104, .int m_token2_110, .int m_whole2_111, .int m_nameSize2_108, .int m_fault2_106, .int m_place2_109, .int m_trouble, .ref a_letters, .int m_failed2_105, .int m_hasHouse, .ref a_r, .ref a_fresh, .ref a_st, .ref a_undone, .ref a_kept, .int m_undos, .int m_images, .ref a_from, .ref a_begin, .ref a_motor, .ref a_change, .ref a_startFrame, .ref a_changeFrame, .ref a_lostAt, .ref a_blackAt, .ref a_slips, .ref a_leftArc, .ref a_died, .ref a_arcs, .int m_bestSum, .int m_nearest, .int m_nearestTown, .ref a_there, .ref a_backAt, .ref a_sorted, .ref a_parts, .int m_seed1, .int m_darkNow])), (a_tape, .inl (g.2.2.1, 900, .inl d_tape)), (a_letters, .inl (g.2.2.1, 8, .inl d_letters2_107))] X dX11_joinLine_84 0 rfl (by unfold vp_in; decide) rfl ?_
        refine (fun hg : ∀ fa_135 : Nat → Int32, fa_135 = upd fa_122 (9 : Int32).toNatClampNeg z_132 → RInv fa_135 → Wk p l e _ s m args below meth c _ A g _ _ _ [(a_fresh, .inl (g.2.2.1, 311, .inl fa_135)), (h0, .inr (11, [.int m_thrown, .ref a_tape, .int m_taped, .int m_size, .int m_at2_103, .int m_end2_104, .int m_token2_110, .int m_whole2_111, .int m_nameSize2_108, .int m_fault2_106, .int m_place2_109, .int m_trouble, .ref a_letters, .int m_failed2_105, .int m_hasHouse, .ref a_r, .ref a_fresh, .ref a_st, .ref a_undone, .ref a_kept, .int m_undos, .int m_images, .ref a_from, .ref a_begin, .ref a_motor, .ref a_change, .ref a_startFrame, .ref a_changeFrame, .ref a_lostAt, .ref a_blackAt, .ref a_slips, .ref a_leftArc, .ref a_died, .ref a_arcs, .int m_bestSum, .int m_nearest, .int m_nearestTown, .ref a_there, .ref a_backAt, .ref a_sorted, .ref a_parts, .int m_seed1, .int m_darkNow])), (a_tape, .inl (g.2.2.1, 900, .inl d_tape)), (a_letters, .inl (g.2.2.1, 8, .inl d_letters2_107))] _ _ _ => hg _ rfl (w_rb_9 hR_123 (iv_w iv_134 (by decide) (by decide)))) (fun fa_135 eq_138 hR_136 => ?_)
        have hT_139 : TRI fa_135 := by rw [eq_138]; exact tri_n (z := 9) hT_128 hR_123 (by decide) (by decide) (by decide) (by decide)
        exact k_vret X hr dX11_joinLine_85 (Nat.le_of_ble_eq_true rfl) (Nat.le_of_ble_eq_true rfl) [1, 2, 3, 0] (by decide) rfl rfl ⟨m_at2_103, m_end2_104, m_failed2_105, m_fault2_106, fa_135, d_letters2_107, m_nameSize2_108, m_place2_109, m_token2_110, m_whole2_111, (iv_w iv_113 (by decide) (by decide)), (iv_w iv_131 (by decide) (by decide)), (iv_w iv_115 (by decide) (by decide)), hR_136, (by omega), hT_139, hk_118, rfl⟩
  · skip
    have iv_140 : IV m_failed 1 1 := iv_neL h_1 hv_m_failed (show IV 0 0 0 from (by decide)) (by decide)
    exact k_vret X hr dX11_joinLine_7 (Nat.le_of_ble_eq_true rfl) (Nat.le_of_ble_eq_true rfl) [0, 1, 2, 3] (by decide) rfl rfl ⟨m_at, m_end, m_failed, m_fault, d_fresh, d_letters, m_nameSize, m_place, m_token, m_whole, (iv_w hv_m_end (by decide) (by decide)), (iv_w iv_140 (by decide) (by decide)), (iv_w hv_m_nameSize (by decide) (by decide)), hp_d_fresh, (by omega), hr_0, hc_1, rfl⟩

theorem dX11_weakLine_0 : decode cX11_weakLine 0 = .ok (.aload_n 0, 1) := by decide +kernel
theorem dX11_weakLine_1 : decode cX11_weakLine 1 = .ok (.getfield 121, 3) := by decide +kernel
theorem dX11_weakLine_4 : decode cX11_weakLine 4 = .ok (.ifCond .eq 4, 3) := by decide +kernel
theorem dX11_weakLine_7 : decode cX11_weakLine 7 = .ok (.return_, 1) := by decide +kernel
theorem dX11_weakLine_8 : decode cX11_weakLine 8 = .ok (.bipush 96, 2) := by decide +kernel
theorem dX11_weakLine_10 : decode cX11_weakLine 10 = .ok (.iconst 3, 1) := by decide +kernel
theorem dX11_weakLine_11 : decode cX11_weakLine 11 = .ok (.aload_n 0, 1) := by decide +kernel
theorem dX11_weakLine_12 : decode cX11_weakLine 12 = .ok (.getfield 23, 3) := by decide +kernel
theorem dX11_weakLine_15 : decode cX11_weakLine 15 = .ok (.bipush 10, 2) := by decide +kernel
theorem dX11_weakLine_17 : decode cX11_weakLine 17 = .ok (.iaload, 1) := by decide +kernel
theorem dX11_weakLine_18 : decode cX11_weakLine 18 = .ok (.imul, 1) := by decide +kernel
theorem dX11_weakLine_19 : decode cX11_weakLine 19 = .ok (.iadd, 1) := by decide +kernel
theorem dX11_weakLine_20 : decode cX11_weakLine 20 = .ok (.istore_n 1, 1) := by decide +kernel
theorem dX11_weakLine_21 : decode cX11_weakLine 21 = .ok (.aload_n 0, 1) := by decide +kernel
theorem dX11_weakLine_22 : decode cX11_weakLine 22 = .ok (.invokevirtual 288, 3) := by decide +kernel
theorem dX11_weakLine_25 : decode cX11_weakLine 25 = .ok (.istore_n 2, 1) := by decide +kernel
theorem dX11_weakLine_26 : decode cX11_weakLine 26 = .ok (.aload_n 0, 1) := by decide +kernel
theorem dX11_weakLine_27 : decode cX11_weakLine 27 = .ok (.getfield 121, 3) := by decide +kernel
theorem dX11_weakLine_30 : decode cX11_weakLine 30 = .ok (.ifCond .eq 7, 3) := by decide +kernel
theorem dX11_weakLine_33 : decode cX11_weakLine 33 = .ok (.iconst 0, 1) := by decide +kernel
theorem dX11_weakLine_34 : decode cX11_weakLine 34 = .ok (.goto 21, 3) := by decide +kernel
theorem dX11_weakLine_37 : decode cX11_weakLine 37 = .ok (.aload_n 0, 1) := by decide +kernel
theorem dX11_weakLine_38 : decode cX11_weakLine 38 = .ok (.iconst 0, 1) := by decide +kernel
theorem dX11_weakLine_39 : decode cX11_weakLine 39 = .ok (.aload_n 0, 1) := by decide +kernel
theorem dX11_weakLine_40 : decode cX11_weakLine 40 = .ok (.getfield 23, 3) := by decide +kernel
theorem dX11_weakLine_43 : decode cX11_weakLine 43 = .ok (.bipush 16, 2) := by decide +kernel
theorem dX11_weakLine_45 : decode cX11_weakLine 45 = .ok (.iconst 3, 1) := by decide +kernel
theorem dX11_weakLine_46 : decode cX11_weakLine 46 = .ok (.iload_n 2, 1) := by decide +kernel
theorem dX11_weakLine_47 : decode cX11_weakLine 47 = .ok (.imul, 1) := by decide +kernel
theorem dX11_weakLine_48 : decode cX11_weakLine 48 = .ok (.iadd, 1) := by decide +kernel
theorem dX11_weakLine_49 : decode cX11_weakLine 49 = .ok (.iaload, 1) := by decide +kernel
theorem dX11_weakLine_50 : decode cX11_weakLine 50 = .ok (.iconst 1, 1) := by decide +kernel
theorem dX11_weakLine_51 : decode cX11_weakLine 51 = .ok (.isub, 1) := by decide +kernel
theorem dX11_weakLine_52 : decode cX11_weakLine 52 = .ok (.invokevirtual 190, 3) := by decide +kernel
theorem dX11_weakLine_55 : decode cX11_weakLine 55 = .ok (.istore_n 3, 1) := by decide +kernel
theorem dX11_weakLine_56 : decode cX11_weakLine 56 = .ok (.iconst 0, 1) := by decide +kernel
theorem dX11_weakLine_57 : decode cX11_weakLine 57 = .ok (.istore 4, 2) := by decide +kernel
theorem dX11_weakLine_59 : decode cX11_weakLine 59 = .ok (.iload 4, 2) := by decide +kernel
theorem dX11_weakLine_61 : decode cX11_weakLine 61 = .ok (.aload_n 0, 1) := by decide +kernel
theorem dX11_weakLine_62 : decode cX11_weakLine 62 = .ok (.getfield 23, 3) := by decide +kernel
theorem dX11_weakLine_65 : decode cX11_weakLine 65 = .ok (.bipush 10, 2) := by decide +kernel
theorem dX11_weakLine_67 : decode cX11_weakLine 67 = .ok (.iaload, 1) := by decide +kernel
theorem dX11_weakLine_68 : decode cX11_weakLine 68 = .ok (.if_icmp .ge 59, 3) := by decide +kernel
theorem dX11_weakLine_71 : decode cX11_weakLine 71 = .ok (.aload_n 0, 1) := by decide +kernel
theorem dX11_weakLine_72 : decode cX11_weakLine 72 = .ok (.getfield 121, 3) := by decide +kernel
theorem dX11_weakLine_75 : decode cX11_weakLine 75 = .ok (.ifCond .ne 46, 3) := by decide +kernel
theorem dX11_weakLine_78 : decode cX11_weakLine 78 = .ok (.aload_n 0, 1) := by decide +kernel
theorem dX11_weakLine_79 : decode cX11_weakLine 79 = .ok (.getfield 23, 3) := by decide +kernel
theorem dX11_weakLine_82 : decode cX11_weakLine 82 = .ok (.bipush 96, 2) := by decide +kernel
theorem dX11_weakLine_84 : decode cX11_weakLine 84 = .ok (.iconst 3, 1) := by decide +kernel
theorem dX11_weakLine_85 : decode cX11_weakLine 85 = .ok (.iload 4, 2) := by decide +kernel
theorem dX11_weakLine_87 : decode cX11_weakLine 87 = .ok (.imul, 1) := by decide +kernel
theorem dX11_weakLine_88 : decode cX11_weakLine 88 = .ok (.iadd, 1) := by decide +kernel
theorem dX11_weakLine_89 : decode cX11_weakLine 89 = .ok (.iaload, 1) := by decide +kernel
theorem dX11_weakLine_90 : decode cX11_weakLine 90 = .ok (.iload_n 2, 1) := by decide +kernel
theorem dX11_weakLine_91 : decode cX11_weakLine 91 = .ok (.if_icmp .ne 30, 3) := by decide +kernel
theorem dX11_weakLine_94 : decode cX11_weakLine 94 = .ok (.aload_n 0, 1) := by decide +kernel
theorem dX11_weakLine_95 : decode cX11_weakLine 95 = .ok (.getfield 23, 3) := by decide +kernel
theorem dX11_weakLine_98 : decode cX11_weakLine 98 = .ok (.bipush 96, 2) := by decide +kernel
theorem dX11_weakLine_100 : decode cX11_weakLine 100 = .ok (.iconst 3, 1) := by decide +kernel
theorem dX11_weakLine_101 : decode cX11_weakLine 101 = .ok (.iload 4, 2) := by decide +kernel
theorem dX11_weakLine_103 : decode cX11_weakLine 103 = .ok (.imul, 1) := by decide +kernel
theorem dX11_weakLine_104 : decode cX11_weakLine 104 = .ok (.iadd, 1) := by decide +kernel
theorem dX11_weakLine_105 : decode cX11_weakLine 105 = .ok (.iconst 1, 1) := by decide +kernel
theorem dX11_weakLine_106 : decode cX11_weakLine 106 = .ok (.iadd, 1) := by decide +kernel
theorem dX11_weakLine_107 : decode cX11_weakLine 107 = .ok (.iaload, 1) := by decide +kernel
theorem dX11_weakLine_108 : decode cX11_weakLine 108 = .ok (.iload_n 3, 1) := by decide +kernel
theorem dX11_weakLine_109 : decode cX11_weakLine 109 = .ok (.if_icmp .ne 12, 3) := by decide +kernel
theorem dX11_weakLine_112 : decode cX11_weakLine 112 = .ok (.aload_n 0, 1) := by decide +kernel
theorem dX11_weakLine_113 : decode cX11_weakLine 113 = .ok (.iconst 3, 1) := by decide +kernel
theorem dX11_weakLine_114 : decode cX11_weakLine 114 = .ok (.aload_n 0, 1) := by decide +kernel
theorem dX11_weakLine_115 : decode cX11_weakLine 115 = .ok (.getfield 102, 3) := by decide +kernel
theorem dX11_weakLine_118 : decode cX11_weakLine 118 = .ok (.invokevirtual 148, 3) := by decide +kernel
theorem dX11_weakLine_121 : decode cX11_weakLine 121 = .ok (.iinc 4 1, 3) := by decide +kernel
theorem dX11_weakLine_124 : decode cX11_weakLine 124 = .ok (.goto (-65), 3) := by decide +kernel
theorem dX11_weakLine_127 : decode cX11_weakLine 127 = .ok (.aload_n 0, 1) := by decide +kernel
theorem dX11_weakLine_128 : decode cX11_weakLine 128 = .ok (.getfield 121, 3) := by decide +kernel
theorem dX11_weakLine_131 : decode cX11_weakLine 131 = .ok (.ifCond .eq 4, 3) := by decide +kernel
theorem dX11_weakLine_134 : decode cX11_weakLine 134 = .ok (.return_, 1) := by decide +kernel
theorem dX11_weakLine_135 : decode cX11_weakLine 135 = .ok (.aload_n 0, 1) := by decide +kernel
theorem dX11_weakLine_136 : decode cX11_weakLine 136 = .ok (.invokevirtual 142, 3) := by decide +kernel
theorem dX11_weakLine_139 : decode cX11_weakLine 139 = .ok (.aload_n 0, 1) := by decide +kernel
theorem dX11_weakLine_140 : decode cX11_weakLine 140 = .ok (.getfield 23, 3) := by decide +kernel
theorem dX11_weakLine_143 : decode cX11_weakLine 143 = .ok (.iload_n 1, 1) := by decide +kernel
theorem dX11_weakLine_144 : decode cX11_weakLine 144 = .ok (.iload_n 2, 1) := by decide +kernel
theorem dX11_weakLine_145 : decode cX11_weakLine 145 = .ok (.iastore, 1) := by decide +kernel
theorem dX11_weakLine_146 : decode cX11_weakLine 146 = .ok (.aload_n 0, 1) := by decide +kernel
theorem dX11_weakLine_147 : decode cX11_weakLine 147 = .ok (.getfield 23, 3) := by decide +kernel
theorem dX11_weakLine_150 : decode cX11_weakLine 150 = .ok (.iload_n 1, 1) := by decide +kernel
theorem dX11_weakLine_151 : decode cX11_weakLine 151 = .ok (.iconst 1, 1) := by decide +kernel
theorem dX11_weakLine_152 : decode cX11_weakLine 152 = .ok (.iadd, 1) := by decide +kernel
theorem dX11_weakLine_153 : decode cX11_weakLine 153 = .ok (.iload_n 3, 1) := by decide +kernel
theorem dX11_weakLine_154 : decode cX11_weakLine 154 = .ok (.iastore, 1) := by decide +kernel
theorem dX11_weakLine_155 : decode cX11_weakLine 155 = .ok (.aload_n 0, 1) := by decide +kernel
theorem dX11_weakLine_156 : decode cX11_weakLine 156 = .ok (.getfield 23, 3) := by decide +kernel
theorem dX11_weakLine_159 : decode cX11_weakLine 159 = .ok (.iload_n 1, 1) := by decide +kernel
theorem dX11_weakLine_160 : decode cX11_weakLine 160 = .ok (.iconst 2, 1) := by decide +kernel
theorem dX11_weakLine_161 : decode cX11_weakLine 161 = .ok (.iadd, 1) := by decide +kernel
theorem dX11_weakLine_162 : decode cX11_weakLine 162 = .ok (.aload_n 0, 1) := by decide +kernel
theorem dX11_weakLine_163 : decode cX11_weakLine 163 = .ok (.ldc_w 296, 3) := by decide +kernel
theorem dX11_weakLine_166 : decode cX11_weakLine 166 = .ok (.iconst 1, 1) := by decide +kernel
theorem dX11_weakLine_167 : decode cX11_weakLine 167 = .ok (.bipush 99, 2) := by decide +kernel
theorem dX11_weakLine_169 : decode cX11_weakLine 169 = .ok (.invokevirtual 264, 3) := by decide +kernel
theorem dX11_weakLine_172 : decode cX11_weakLine 172 = .ok (.iastore, 1) := by decide +kernel
theorem dX11_weakLine_173 : decode cX11_weakLine 173 = .ok (.aload_n 0, 1) := by decide +kernel
theorem dX11_weakLine_174 : decode cX11_weakLine 174 = .ok (.getfield 121, 3) := by decide +kernel
theorem dX11_weakLine_177 : decode cX11_weakLine 177 = .ok (.ifCond .ne 14, 3) := by decide +kernel
theorem dX11_weakLine_180 : decode cX11_weakLine 180 = .ok (.aload_n 0, 1) := by decide +kernel
theorem dX11_weakLine_181 : decode cX11_weakLine 181 = .ok (.getfield 23, 3) := by decide +kernel
theorem dX11_weakLine_184 : decode cX11_weakLine 184 = .ok (.bipush 10, 2) := by decide +kernel
theorem dX11_weakLine_186 : decode cX11_weakLine 186 = .ok (.dup2, 1) := by decide +kernel
theorem dX11_weakLine_187 : decode cX11_weakLine 187 = .ok (.iaload, 1) := by decide +kernel
theorem dX11_weakLine_188 : decode cX11_weakLine 188 = .ok (.iconst 1, 1) := by decide +kernel
theorem dX11_weakLine_189 : decode cX11_weakLine 189 = .ok (.iadd, 1) := by decide +kernel
theorem dX11_weakLine_190 : decode cX11_weakLine 190 = .ok (.iastore, 1) := by decide +kernel
theorem dX11_weakLine_191 : decode cX11_weakLine 191 = .ok (.return_, 1) := by decide +kernel
set_option maxHeartbeats 4000000 in
set_option maxRecDepth 100000 in
theorem m_weakLine (l : Launch) (g : Gx) (h0 : Nat) (m_thrown : Int32) (a_tape : Nat) (m_taped : Int32) (m_size : Int32) (m_at : Int32) (m_end : Int32) (m_token : Int32) (m_whole : Int32) (m_nameSize : Int32) (m_fault : Int32) (m_place : Int32) (m_trouble : Int32) (a_letters : Nat) (m_failed : Int32) (m_hasHouse : Int32) (a_r : Nat) (a_fresh : Nat) (a_st : Nat) (a_undone : Nat) (a_kept : Nat) (m_undos : Int32) (m_images : Int32) (a_from : Nat) (a_begin : Nat) (a_motor : Nat) (a_change : Nat) (a_startFrame : Nat) (a_changeFrame : Nat) (a_lostAt : Nat) (a_blackAt : Nat) (a_slips : Nat) (a_leftArc : Nat) (a_died : Nat) (a_arcs : Nat) (m_bestSum : Int32) (m_nearest : Int32) (m_nearestTown : Int32) (a_there : Nat) (a_backAt : Nat) (a_sorted : Nat) (a_parts : Nat) (m_seed1 : Int32) (m_darkNow : Int32) (d_tape : Nat → Int32) (d_letters : Nat → Int32) (d_fresh : Nat → Int32) (hv_m_size : IV m_size 0 900) (hv_m_end : IV m_end 0 900) (hv_m_nameSize : IV m_nameSize 0 900) (hv_m_failed : IV m_failed 0 1) (hp_d_fresh : RInv d_fresh) (hr_0 : TRI d_fresh) (hc_0 : m_failed = 1 ∨ ((d_fresh 10).toInt ≤ 5)) (hc_1 : m_token = 2 → IV m_nameSize 0 8) : cV l g yX11_weakLine cX11_weakLine 5 8 173 0 0 [.ref h0] [(h0, .inr (11, [.int m_thrown, .ref a_tape, .int m_taped, .int m_size, .int m_at, .int m_end, .int m_token, .int m_whole, .int m_nameSize, .int m_fault, .int m_place, .int m_trouble, .ref a_letters, .int m_failed, .int m_hasHouse, .ref a_r, .ref a_fresh, .ref a_st, .ref a_undone, .ref a_kept, .int m_undos, .int m_images, .ref a_from, .ref a_begin, .ref a_motor, .ref a_change, .ref a_startFrame, .ref a_changeFrame, .ref a_lostAt, .ref a_blackAt, .ref a_slips, .ref a_leftArc, .ref a_died, .ref a_arcs, .int m_bestSum, .int m_nearest, .int m_nearestTown, .ref a_there, .ref a_backAt, .ref a_sorted, .ref a_parts, .int m_seed1, .int m_darkNow])), (a_tape, .inl (g.2.2.1, 900, .inl d_tape)), (a_letters, .inl (g.2.2.1, 8, .inl d_letters)), (a_fresh, .inl (g.2.2.1, 311, .inl d_fresh))] (fun w => ∃ (m_at2 : Int32) (m_end2 : Int32) (m_failed2 : Int32) (m_fault2 : Int32) (d_fresh2 : Nat → Int32) (d_letters2 : Nat → Int32) (m_nameSize2 : Int32) (m_place2 : Int32) (m_token2 : Int32) (m_whole2 : Int32), IV m_end2 0 900 ∧ IV m_failed2 0 1 ∧ IV m_nameSize2 0 900 ∧ RInv d_fresh2 ∧ (m_end.toInt ≤ m_end2.toInt) ∧ (TRI d_fresh2) ∧ (m_token2 = 2 → IV m_nameSize2 0 8) ∧ w = [(h0, .inr (11, [.int m_thrown, .ref a_tape, .int m_taped, .int m_size, .int m_at2, .int m_end2, .int m_token2, .int m_whole2, .int m_nameSize2, .int m_fault2, .int m_place2, .int m_trouble, .ref a_letters, .int m_failed2, .int m_hasHouse, .ref a_r, .ref a_fresh, .ref a_st, .ref a_undone, .ref a_kept, .int m_undos, .int m_images, .ref a_from, .ref a_begin, .ref a_motor, .ref a_change, .ref a_startFrame, .ref a_changeFrame, .ref a_lostAt, .ref a_blackAt, .ref a_slips, .ref a_leftArc, .ref a_died, .ref a_arcs, .int m_bestSum, .int m_nearest, .int m_nearestTown, .ref a_there, .ref a_backAt, .ref a_sorted, .ref a_parts, .int m_seed1, .int m_darkNow])), (a_tape, .inl (g.2.2.1, 900, .inl d_tape)), (a_letters, .inl (g.2.2.1, 8, .inl d_letters2)), (a_fresh, .inl (g.2.2.1, 311, .inl d_fresh2))]) := by
  refine cV.of (by decide) (Nat.le_of_ble_eq_true rfl) ?_
  intro p e s m args below meth c A X hr hi
  refine k_lveq [(0, .ref h0)] rfl ?_
  refine k_aload_n X dX11_weakLine_0 0 rfl ?_
  refine k_get (ci := 11) X inlX11 rfl 13 (by decide) dX11_weakLine_1 mw469 0 rfl rfl ?_
  refine k_if_eq 8 X dX11_weakLine_4 (by decide) (fun h_1 => ?_) (fun h_1 => ?_)
  · skip
    have iv_2 : IV m_failed 0 0 := iv_meet hv_m_failed (iv_e h_1 (show IV 0 0 0 from (by decide))) (by decide) (by decide)
    have hc_3 := hc_0.resolve_left (fun q => iv_eqN q iv_2 (show IV 1 1 1 from (by decide)) (by decide))
    have j_4 : (d_fresh 10).toInt ≤ 5 := hc_3
    refine k_bipush (v := 96) X dX11_weakLine_8 (by decide) ?_
    refine k_iconst (v := 3) X dX11_weakLine_10 (by decide) ?_
    refine k_aload_n X dX11_weakLine_11 0 rfl ?_
    refine k_get (ci := 11) X inlX11 rfl 16 (by decide) dX11_weakLine_12 mw171 0 rfl rfl ?_
    refine k_bipush (v := 10) X dX11_weakLine_15 (by decide) ?_
    refine k_iald X dX11_weakLine_17 3 rfl (by unfold vp_in; decide) ?_
    refine k_nm (fun z_5 ez_5 => ?_)
    have i_6 : z_5.toInt = (d_fresh 10).toInt := by rw [ez_5]; rfl
    have iv_7 : IV z_5 0 5 := by have := rb_10 ez_5 hp_d_fresh; rw [IV]; omega
    refine k_imul X dX11_weakLine_18 ?_
    refine k_nm (fun z_8 ez_8 => ?_)
    have i_9 : z_8.toInt = 3 * z_5.toInt := in_mul ez_8 (by decide) (by decide) iv_7 (by decide) (by decide)
    have iv_10 : IV z_8 0 15 := by have := (show IV 3 3 3 from (by decide)); have := iv_7; rw [IV, i_9]; omega
    refine k_iadd X dX11_weakLine_19 ?_
    refine k_nm (fun z_11 ez_11 => ?_)
    have i_12 : z_11.toInt = 96 + z_8.toInt := in_add ez_11 (show IV 96 96 96 from (by decide)) iv_10 (by decide) (by decide)
    have iv_13 : IV z_11 96 111 := by have := (show IV 96 96 96 from (by decide)); have := iv_10; rw [IV, i_12]; omega
    refine k_istore_n [(1, .int z_11), (0, .ref h0)] X dX11_weakLine_20 (by decide) rfl ?_
    refine k_aload_n X dX11_weakLine_21 1 rfl ?_
    refine k_callVI (n := 0) (As := []) (st := []) X [(h0, .inr (11, [.int m_thrown, .ref a_tape, .int m_taped, .int m_size, .int m_at, .int m_end, .int m_token, .int m_whole, .int m_nameSize, .int m_fault, .int m_place, .int m_trouble, .ref a_letters, .int m_failed, .int m_hasHouse, .ref a_r, .ref a_fresh, .ref a_st, .ref a_undone, .ref a_kept, .int m_undos, .int m_images, .ref a_from, .ref a_begin, .ref a_motor, .ref a_change, .ref a_startFrame, .ref a_changeFrame, .ref a_lostAt, .ref a_blackAt, .ref a_slips, .ref a_leftArc, .ref a_died, .ref a_arcs, .int m_bestSum, .int m_nearest, .int m_nearestTown, .ref a_there, .ref a_backAt, .ref a_sorted, .ref a_parts, .int m_seed1, .int m_darkNow])), (a_tape, .inl (g.2.2.1, 900, .inl d_tape)), (a_letters, .inl (g.2.2.1, 8, .inl d_letters)), (a_fresh, .inl (g.2.2.1, 311, .inl d_fresh))] [] [0, 1, 2, 3] [] (m_reelPassed l g h0 m_thrown a_tape m_taped m_size m_at m_end m_token m_whole m_nameSize m_fault m_place m_trouble a_letters m_failed m_hasHouse a_r a_fresh a_st a_undone a_kept m_undos m_images a_from a_begin a_motor a_change a_startFrame a_changeFrame a_lostAt a_blackAt a_slips a_leftArc a_died a_arcs m_bestSum m_nearest m_nearestTown a_there a_backAt a_sorted a_parts m_seed1 m_darkNow d_tape d_letters d_fresh (iv_w hv_m_size (by decide) (by decide)) (iv_w hv_m_end (by decide) (by decide)) (iv_w hv_m_nameSize (by decide) (by decide)) (iv_w iv_2 (by decide) (by decide)) hp_d_fresh hc_1) dX11_weakLine_22 mw571 mw572 mw573 mw5 mw574 rfl 11 rfl rfl 0 _ rfl (by unfold yOk; decide) rfl (Nat.le_of_ble_eq_true rfl) (Nat.le_of_ble_eq_true rfl) (Nat.le_of_ble_eq_true rfl) (Nat.le_of_ble_eq_true rfl) (Nat.le_of_ble_eq_true rfl) rfl rfl (by decide) rfl (by decide) (by decide) ?_
    rintro r_23 w ⟨m_at2_14, m_end2_15, m_failed2_16, m_fault2_17, d_letters2_18, m_nameSize2_19, m_place2_20, m_token2_21, m_whole2_22, iv_24, iv_25, iv_26, iv_27, hq_28, hk_29, rfl⟩
    refine k_ws [(h0, .inr (11, [.int m_thrown, .ref a_tape, .int m_taped, .int m_size, .int m_at2_14, .int m_end2_15, .int m_token2_21, .int m_whole2_22, .int m_nameSize2_19, .int m_fault2_17, .int m_place2_20, .int m_trouble, .ref a_letters, .int m_failed2_16, .int m_hasHouse, .ref a_r, .ref a_fresh, .ref a_st, .ref a_undone, .ref a_kept, .int m_undos, .int m_images, .ref a_from, .ref a_begin, .ref a_motor, .ref a_change, .ref a_startFrame, .ref a_changeFrame, .ref a_lostAt, .ref a_blackAt, .ref a_slips, .ref a_leftArc, .ref a_died, .ref a_arcs, .int m_bestSum, .int m_nearest, .int m_nearestTown, .ref a_there, .ref a_backAt, .ref a_sorted, .ref a_parts, .int m_seed1, .int m_darkNow])), (a_tape, .inl (g.2.2.1, 900, .inl d_tape)), (a_letters, .inl (g.2.2.1, 8, .inl d_letters2_18)), (a_fresh, .inl (g.2.2.1, 311, .inl d_fresh))] rfl ?_
    refine k_istore_n [(2, .int r_23), (1, .int z_11), (0, .ref h0)] X dX11_weakLine_25 (by decide) rfl ?_
    refine k_aload_n X dX11_weakLine_26 2 rfl ?_
    refine k_get (ci := 11) X inlX11 rfl 13 (by decide) dX11_weakLine_27 mw469 0 rfl rfl ?_
    refine k_if_eq 37 X dX11_weakLine_30 (by decide) (fun h_30 => ?_) (fun h_30 => ?_)
    · skip
      have iv_31 : IV m_failed2_16 0 0 := iv_meet iv_25 (iv_e h_30 (show IV 0 0 0 from (by decide))) (by decide) (by decide)
      refine k_aload_n X dX11_weakLine_37 2 rfl ?_
      refine k_iconst (v := 0) X dX11_weakLine_38 (by decide) ?_
      refine k_aload_n X dX11_weakLine_39 2 rfl ?_
      refine k_get (ci := 11) X inlX11 rfl 16 (by decide) dX11_weakLine_40 mw171 0 rfl rfl ?_
      refine k_bipush (v := 16) X dX11_weakLine_43 (by decide) ?_
      refine k_iconst (v := 3) X dX11_weakLine_45 (by decide) ?_
      refine k_iload_n X dX11_weakLine_46 0 rfl ?_
      refine k_imul X dX11_weakLine_47 ?_
      refine k_nm (fun z_32 ez_32 => ?_)
      have i_33 : z_32.toInt = 3 * r_23.toInt := in_mul ez_32 (by decide) (by decide) iv_27 (by decide) (by decide)
      have iv_34 : IV z_32 0 21 := by have := (show IV 3 3 3 from (by decide)); have := iv_27; rw [IV, i_33]; omega
      refine k_iadd X dX11_weakLine_48 ?_
      refine k_nm (fun z_35 ez_35 => ?_)
      have i_36 : z_35.toInt = 16 + z_32.toInt := in_add ez_35 (show IV 16 16 16 from (by decide)) iv_34 (by decide) (by decide)
      have iv_37 : IV z_35 16 37 := by have := (show IV 16 16 16 from (by decide)); have := iv_34; rw [IV, i_36]; omega
      refine k_iald X dX11_weakLine_49 3 rfl (iv_in iv_37 (by decide) (by decide)) ?_
      refine k_nm (fun z_38 ez_38 => ?_)
      refine k_iconst (v := 1) X dX11_weakLine_50 (by decide) ?_
      refine k_isub X dX11_weakLine_51 ?_
      refine k_nm (fun z_39 ez_39 => ?_)
      refine k_callVI (n := 2) (As := [.int 0, .int z_39]) (st := []) X [(h0, .inr (11, [.int m_thrown, .ref a_tape, .int m_taped, .int m_size, .int m_at2_14, .int m_end2_15, .int m_token2_21, .int m_whole2_22, .int m_nameSize2_19, .int m_fault2_17, .int m_place2_20, .int m_trouble, .ref a_letters, .int m_failed2_16, .int m_hasHouse, .ref a_r, .ref a_fresh, .ref a_st, .ref a_undone, .ref a_kept, .int m_undos, .int m_images, .ref a_from, .ref a_begin, .ref a_motor, .ref a_change, .ref a_startFrame, .ref a_changeFrame, .ref a_lostAt, .ref a_blackAt, .ref a_slips, .ref a_leftArc, .ref a_died, .ref a_arcs, .int m_bestSum, .int m_nearest, .int m_nearestTown, .ref a_there, .ref a_backAt, .ref a_sorted, .ref a_parts, .int m_seed1, .int m_darkNow]))] [(a_tape, .inl (g.2.2.1, 900, .inl d_tape)), (a_letters, .inl (g.2.2.1, 8, .inl d_letters2_18)), (a_fresh, .inl (g.2.2.1, 311, .inl d_fresh))] [0] [1, 2, 3] (m_numberHere l g h0 0 z_39 m_thrown a_tape m_taped m_size m_at2_14 m_end2_15 m_token2_21 m_whole2_22 m_nameSize2_19 m_fault2_17 m_place2_20 m_trouble a_letters m_failed2_16 m_hasHouse a_r a_fresh a_st a_undone a_kept m_undos m_images a_from a_begin a_motor a_change a_startFrame a_changeFrame a_lostAt a_blackAt a_slips a_leftArc a_died a_arcs m_bestSum m_nearest m_nearestTown a_there a_backAt a_sorted a_parts m_seed1 m_darkNow (iv_w iv_31 (by decide) (by decide))) dX11_weakLine_52 mw539 mw540 mw541 mw5 mw542 rfl 11 rfl rfl 0 _ rfl (by unfold yOk; decide) rfl (Nat.le_of_ble_eq_true rfl) (Nat.le_of_ble_eq_true rfl) (Nat.le_of_ble_eq_true rfl) (Nat.le_of_ble_eq_true rfl) (Nat.le_of_ble_eq_true rfl) rfl rfl (by decide) rfl (by decide) (by decide) ?_
      rintro r_44 w ⟨m_failed2_41, m_fault2_42, m_place2_43, iv_45, hq_46, rfl⟩
      refine k_ws [(a_tape, .inl (g.2.2.1, 900, .inl d_tape)), (a_letters, .inl (g.2.2.1, 8, .inl d_letters2_18)), (a_fresh, .inl (g.2.2.1, 311, .inl d_fresh)), (h0, .inr (11, [.int m_thrown, .ref a_tape, .int m_taped, .int m_size, .int m_at2_14, .int m_end2_15, .int m_token2_21, .int m_whole2_22, .int m_nameSize2_19, .int m_fault2_42, .int m_place2_43, .int m_trouble, .ref a_letters, .int m_failed2_41, .int m_hasHouse, .ref a_r, .ref a_fresh, .ref a_st, .ref a_undone, .ref a_kept, .int m_undos, .int m_images, .ref a_from, .ref a_begin, .ref a_motor, .ref a_change, .ref a_startFrame, .ref a_changeFrame, .ref a_lostAt, .ref a_blackAt, .ref a_slips, .ref a_leftArc, .ref a_died, .ref a_arcs, .int m_bestSum, .int m_nearest, .int m_nearestTown, .ref a_there, .ref a_backAt, .ref a_sorted, .ref a_parts, .int m_seed1, .int m_darkNow]))] rfl ?_
      have e_47 : (0 : Int32).toInt = 0 := by decide
      have iv_48 : IV r_44 0 2147483647 := by have := (show IV 0 0 0 from (by decide)); have := (iv_any z_39); rw [IV]; omega
      refine k_istore_n [(3, .int r_44), (2, .int r_23), (1, .int z_11), (0, .ref h0)] X dX11_weakLine_55 (by decide) rfl ?_
      refine k_iconst (v := 0) X dX11_weakLine_56 (by decide) ?_
      refine k_istore [(4, .int 0), (3, .int r_44), (2, .int r_23), (1, .int z_11), (0, .ref h0)] X dX11_weakLine_57 (by decide) rfl ?_
      refine (fun hL : ∀ (nn_55 : Nat) (u_49 : Int32) (u_51 : Int32) (u_52 : Int32) (u_54 : Int32), (z_5.toInt - u_49.toInt).toNat = nn_55 → (IV u_49 0 8) → (IV u_52 0 1) → Wk p l e _ s m args below meth c _ A g _ _ _ [(a_tape, .inl (g.2.2.1, 900, .inl d_tape)), (a_letters, .inl (g.2.2.1, 8, .inl d_letters2_18)), (a_fresh, .inl (g.2.2.1, 311, .inl d_fresh)), (h0, .inr (11, [.int m_thrown, .ref a_tape, .int m_taped, .int m_size, .int m_at2_14, .int m_end2_15, .int m_token2_21, .int m_whole2_22, .int m_nameSize2_19, .int u_54, .int u_51, .int m_trouble, .ref a_letters, .int u_52, .int m_hasHouse, .ref a_r, .ref a_fresh, .ref a_st, .ref a_undone, .ref a_kept, .int m_undos, .int m_images, .ref a_from, .ref a_begin, .ref a_motor, .ref a_change, .ref a_startFrame, .ref a_changeFrame, .ref a_lostAt, .ref a_blackAt, .ref a_slips, .ref a_leftArc, .ref a_died, .ref a_arcs, .int m_bestSum, .int m_nearest, .int m_nearestTown, .ref a_there, .ref a_backAt, .ref a_sorted, .ref a_parts, .int m_seed1, .int m_darkNow]))] [(4, .int u_49), (3, .int r_44), (2, .int r_23), (1, .int z_11), (0, .ref h0)] 59 [] => hL _ 0 m_place2_43 m_failed2_41 m_fault2_42 rfl (iv_w (show IV 0 0 0 from (by decide)) (by decide) (by decide)) (iv_w iv_45 (by decide) (by decide))) ?_
      refine fun nn_55 => Nat.strongRecOn nn_55 (fun nn_55 ih_57 => ?_)
      intro u_49 u_51 u_52 u_54 hm_56 hv_50 hv_53
      refine k_iload X dX11_weakLine_59 0 rfl ?_
      refine k_aload_n X dX11_weakLine_61 4 rfl ?_
      refine k_get (ci := 11) X inlX11 rfl 16 (by decide) dX11_weakLine_62 mw171 3 rfl rfl ?_
      refine k_bipush (v := 10) X dX11_weakLine_65 (by decide) ?_
      refine k_iald X dX11_weakLine_67 2 rfl (by unfold vp_in; decide) ?_
      refine k_to z_5 ez_5.symm ?_
      refine k_ic_ge 127 X dX11_weakLine_68 (by decide) (fun h_58 => ?_) (fun h_58 => ?_)
      · skip
        have j_59 : z_5.toInt ≤ u_49.toInt := iv_le h_58
        refine k_aload_n X dX11_weakLine_127 4 rfl ?_
        refine k_get (ci := 11) X inlX11 rfl 13 (by decide) dX11_weakLine_128 mw469 3 rfl rfl ?_
        refine k_if_eq 135 X dX11_weakLine_131 (by decide) (fun h_60 => ?_) (fun h_60 => ?_)
        · skip
          have iv_61 : IV u_52 0 0 := iv_meet hv_53 (iv_e h_60 (show IV 0 0 0 from (by decide))) (by decide) (by decide)
          refine k_aload_n X dX11_weakLine_135 4 rfl ?_
          refine k_callVV (n := 0) (As := []) (st := []) X [(h0, .inr (11, [.int m_thrown, .ref a_tape, .int m_taped, .int m_size, .int m_at2_14, .int m_end2_15, .int m_token2_21, .int m_whole2_22, .int m_nameSize2_19, .int u_54, .int u_51, .int m_trouble, .ref a_letters, .int u_52, .int m_hasHouse, .ref a_r, .ref a_fresh, .ref a_st, .ref a_undone, .ref a_kept, .int m_undos, .int m_images, .ref a_from, .ref a_begin, .ref a_motor, .ref a_change, .ref a_startFrame, .ref a_changeFrame, .ref a_lostAt, .ref a_blackAt, .ref a_slips, .ref a_leftArc, .ref a_died, .ref a_arcs, .int m_bestSum, .int m_nearest, .int m_nearestTown, .ref a_there, .ref a_backAt, .ref a_sorted, .ref a_parts, .int m_seed1, .int m_darkNow])), (a_tape, .inl (g.2.2.1, 900, .inl d_tape)), (a_letters, .inl (g.2.2.1, 8, .inl d_letters2_18))] [(a_fresh, .inl (g.2.2.1, 311, .inl d_fresh))] [3, 0, 1] [2] (m_next l g h0 m_thrown a_tape m_taped m_size m_at2_14 m_end2_15 m_token2_21 m_whole2_22 m_nameSize2_19 u_54 u_51 m_trouble a_letters u_52 m_hasHouse a_r a_fresh a_st a_undone a_kept m_undos m_images a_from a_begin a_motor a_change a_startFrame a_changeFrame a_lostAt a_blackAt a_slips a_leftArc a_died a_arcs m_bestSum m_nearest m_nearestTown a_there a_backAt a_sorted a_parts m_seed1 m_darkNow d_tape d_letters2_18 (iv_w hv_m_size (by decide) (by decide)) (iv_w iv_24 (by decide) (by decide)) (iv_w iv_26 (by decide) (by decide))) dX11_weakLine_136 mw489 mw490 mw491 mw5 mw492 rfl 11 rfl rfl 0 _ rfl (by unfold yOk; decide) rfl (Nat.le_of_ble_eq_true rfl) (Nat.le_of_ble_eq_true rfl) (Nat.le_of_ble_eq_true rfl) (Nat.le_of_ble_eq_true rfl) (Nat.le_of_ble_eq_true rfl) rfl rfl (by decide) rfl (by decide) (by decide) ?_
          rintro w ⟨m_at2_62, m_end2_63, d_letters2_64, m_nameSize2_65, m_token2_66, m_whole2_67, iv_69, iv_70, hq_71, hq_72, hk_73, rfl⟩
          refine k_ws [(a_fresh, .inl (g.2.2.1, 311, .inl d_fresh)), (h0, .inr (11, [.int m_thrown, .ref a_tape, .int m_taped, .int m_size, .int m_at2_62, .int m_end2_63, .int m_token2_66, .int m_whole2_67, .int m_nameSize2_65, .int u_54, .int u_51, .int m_trouble, .ref a_letters, .int u_52, .int m_hasHouse, .ref a_r, .ref a_fresh, .ref a_st, .ref a_undone, .ref a_kept, .int m_undos, .int m_images, .ref a_from, .ref a_begin, .ref a_motor, .ref a_change, .ref a_startFrame, .ref a_changeFrame, .ref a_lostAt, .ref a_blackAt, .ref a_slips, .ref a_leftArc, .ref a_died, .ref a_arcs, .int m_bestSum, .int m_nearest, .int m_nearestTown, .ref a_there, .ref a_backAt, .ref a_sorted, .ref a_parts, .int m_seed1, .int m_darkNow])), (a_tape, .inl (g.2.2.1, 900, .inl d_tape)), (a_letters, .inl (g.2.2.1, 8, .inl d_letters2_64))] rfl ?_
          refine k_aload_n X dX11_weakLine_139 4 rfl ?_
          refine k_get (ci := 11) X inlX11 rfl 16 (by decide) dX11_weakLine_140 mw171 1 rfl rfl ?_
          refine k_iload_n X dX11_weakLine_143 3 rfl ?_
          refine k_iload_n X dX11_weakLine_144 2 rfl ?_
          refine k_iast [(a_fresh, .inl (g.2.2.1, 311, .inl (upd d_fresh (z_11 : Int32).toNatClampNeg r_23))), (h0, .inr (11, [.int m_thrown, .ref a_tape, .int m_taped, .int m_size, .int m_at2_62, .int m_end2_63, .int m_token2_66, .int m_whole2_67, .int m_nameSize2_65, .int u_54, .int u_51, .int m_trouble, .ref a_letters, .int u_52, .int m_hasHouse, .ref a_r, .ref a_fresh, .ref a_st, .ref a_undone, .ref a_kept, .int m_undos, .int m_images, .ref a_from, .ref a_begin, .ref a_motor, .ref a_change, .ref a_startFrame, .ref a_changeFrame, .ref a_lostAt, .ref a_blackAt, .ref a_slips, .ref a_leftArc, .ref a_died, .ref a_arcs, .int m_bestSum, .int m_nearest, .int m_nearestTown, .ref a_there, .ref a_backAt, .ref a_sorted, .ref a_parts, .int m_seed1, .int m_darkNow])), (a_tape, .inl (g.2.2.1, 900, .inl d_tape)), (a_letters, .inl (g.2.2.1, 8, .inl d_letters2_64))] X dX11_weakLine_145 0 rfl (iv_in iv_13 (by decide) (by decide)) rfl ?_
          have i_76 : z_11.toInt = 96 + 3 * z_5.toInt := by omega
          refine (fun hg : ∀ fa_74 : Nat → Int32, fa_74 = upd d_fresh (z_11 : Int32).toNatClampNeg r_23 → RInv fa_74 → K16 d_fresh fa_74 → Wk p l e _ s m args below meth c _ A g _ _ _ [(a_fresh, .inl (g.2.2.1, 311, .inl fa_74)), (h0, .inr (11, [.int m_thrown, .ref a_tape, .int m_taped, .int m_size, .int m_at2_62, .int m_end2_63, .int m_token2_66, .int m_whole2_67, .int m_nameSize2_65, .int u_54, .int u_51, .int m_trouble, .ref a_letters, .int u_52, .int m_hasHouse, .ref a_r, .ref a_fresh, .ref a_st, .ref a_undone, .ref a_kept, .int m_undos, .int m_images, .ref a_from, .ref a_begin, .ref a_motor, .ref a_change, .ref a_startFrame, .ref a_changeFrame, .ref a_lostAt, .ref a_blackAt, .ref a_slips, .ref a_leftArc, .ref a_died, .ref a_arcs, .int m_bestSum, .int m_nearest, .int m_nearestTown, .ref a_there, .ref a_backAt, .ref a_sorted, .ref a_parts, .int m_seed1, .int m_darkNow])), (a_tape, .inl (g.2.2.1, 900, .inl d_tape)), (a_letters, .inl (g.2.2.1, 8, .inl d_letters2_64))] _ _ _ => hg _ rfl (w_rb_96_3 hp_d_fresh i_76 (iv_w iv_7 (by decide) (by decide)) (iv_w iv_27 (by decide) (by decide))) (k16_u (z := z_11) (by have := iv_13; omega))) (fun fa_74 eq_78 hR_75 hk_77 => ?_)
          have ek_79 : z_5 = fa_74 (10 : Int32).toNatClampNeg := ez_5.trans (hk_77 _ (by decide)).symm
          have hT_80 : TRI fa_74 := by have := iv_13; exact tri_z (z := z_11) eq_78 hr_0 hp_d_fresh (by omega) (by omega) (by omega) (by omega) (by omega)
          refine k_aload_n X dX11_weakLine_146 4 rfl ?_
          refine k_get (ci := 11) X inlX11 rfl 16 (by decide) dX11_weakLine_147 mw171 1 rfl rfl ?_
          refine k_iload_n X dX11_weakLine_150 3 rfl ?_
          refine k_iconst (v := 1) X dX11_weakLine_151 (by decide) ?_
          refine k_iadd X dX11_weakLine_152 ?_
          refine k_nm (fun z_81 ez_81 => ?_)
          have i_82 : z_81.toInt = z_11.toInt + 1 := in_add ez_81 iv_13 (show IV 1 1 1 from (by decide)) (by decide) (by decide)
          have iv_83 : IV z_81 97 112 := by have := iv_13; have := (show IV 1 1 1 from (by decide)); rw [IV, i_82]; omega
          refine k_iload_n X dX11_weakLine_153 1 rfl ?_
          refine k_iast [(a_fresh, .inl (g.2.2.1, 311, .inl (upd fa_74 (z_81 : Int32).toNatClampNeg r_44))), (h0, .inr (11, [.int m_thrown, .ref a_tape, .int m_taped, .int m_size, .int m_at2_62, .int m_end2_63, .int m_token2_66, .int m_whole2_67, .int m_nameSize2_65, .int u_54, .int u_51, .int m_trouble, .ref a_letters, .int u_52, .int m_hasHouse, .ref a_r, .ref a_fresh, .ref a_st, .ref a_undone, .ref a_kept, .int m_undos, .int m_images, .ref a_from, .ref a_begin, .ref a_motor, .ref a_change, .ref a_startFrame, .ref a_changeFrame, .ref a_lostAt, .ref a_blackAt, .ref a_slips, .ref a_leftArc, .ref a_died, .ref a_arcs, .int m_bestSum, .int m_nearest, .int m_nearestTown, .ref a_there, .ref a_backAt, .ref a_sorted, .ref a_parts, .int m_seed1, .int m_darkNow])), (a_tape, .inl (g.2.2.1, 900, .inl d_tape)), (a_letters, .inl (g.2.2.1, 8, .inl d_letters2_64))] X dX11_weakLine_154 0 rfl (iv_in iv_83 (by decide) (by decide)) rfl ?_
          have i_86 : z_81.toInt = 97 + 3 * z_5.toInt := by omega
          refine (fun hg : ∀ fa_84 : Nat → Int32, fa_84 = upd fa_74 (z_81 : Int32).toNatClampNeg r_44 → RInv fa_84 → K16 fa_74 fa_84 → Wk p l e _ s m args below meth c _ A g _ _ _ [(a_fresh, .inl (g.2.2.1, 311, .inl fa_84)), (h0, .inr (11, [.int m_thrown, .ref a_tape, .int m_taped, .int m_size, .int m_at2_62, .int m_end2_63, .int m_token2_66, .int m_whole2_67, .int m_nameSize2_65, .int u_54, .int u_51, .int m_trouble, .ref a_letters, .int u_52, .int m_hasHouse, .ref a_r, .ref a_fresh, .ref a_st, .ref a_undone, .ref a_kept, .int m_undos, .int m_images, .ref a_from, .ref a_begin, .ref a_motor, .ref a_change, .ref a_startFrame, .ref a_changeFrame, .ref a_lostAt, .ref a_blackAt, .ref a_slips, .ref a_leftArc, .ref a_died, .ref a_arcs, .int m_bestSum, .int m_nearest, .int m_nearestTown, .ref a_there, .ref a_backAt, .ref a_sorted, .ref a_parts, .int m_seed1, .int m_darkNow])), (a_tape, .inl (g.2.2.1, 900, .inl d_tape)), (a_letters, .inl (g.2.2.1, 8, .inl d_letters2_64))] _ _ _ => hg _ rfl (w_fr_97_3 hR_75 i_86 (iv_w iv_7 (by decide) (by decide))) (k16_u (z := z_81) (by have := iv_83; omega))) (fun fa_84 eq_88 hR_85 hk_87 => ?_)
          have ek_89 : z_5 = fa_84 (10 : Int32).toNatClampNeg := ek_79.trans (hk_87 _ (by decide)).symm
          have hT_90 : TRI fa_84 := by have := iv_83; exact tri_z (z := z_81) eq_88 hT_80 hR_75 (by omega) (by omega) (by omega) (by omega) (by omega)
          refine k_aload_n X dX11_weakLine_155 4 rfl ?_
          refine k_get (ci := 11) X inlX11 rfl 16 (by decide) dX11_weakLine_156 mw171 1 rfl rfl ?_
          refine k_iload_n X dX11_weakLine_159 3 rfl ?_
          refine k_iconst (v := 2) X dX11_weakLine_160 (by decide) ?_
          refine k_iadd X dX11_weakLine_161 ?_
          refine k_nm (fun z_91 ez_91 => ?_)
          have i_92 : z_91.toInt = z_11.toInt + 2 := in_add ez_91 iv_13 (show IV 2 2 2 from (by decide)) (by decide) (by decide)
          have iv_93 : IV z_91 98 113 := by have := iv_13; have := (show IV 2 2 2 from (by decide)); rw [IV, i_92]; omega
          refine k_aload_n X dX11_weakLine_162 4 rfl ?_
          refine k_ldcwS (tx := "snaps") X dX11_weakLine_163 (by decide +kernel) (fun sr_94 hsr_94 => ?_)
          refine k_iconst (v := 1) X dX11_weakLine_166 (by decide) ?_
          refine k_bipush (v := 99) X dX11_weakLine_167 (by decide) ?_
          refine k_callVI (n := 3) (As := [.ref sr_94, .int 1, .int 99]) (st := [.int z_91, .ref a_fresh]) X [(h0, .inr (11, [.int m_thrown, .ref a_tape, .int m_taped, .int m_size, .int m_at2_62, .int m_end2_63, .int m_token2_66, .int m_whole2_67, .int m_nameSize2_65, .int u_54, .int u_51, .int m_trouble, .ref a_letters, .int u_52, .int m_hasHouse, .ref a_r, .ref a_fresh, .ref a_st, .ref a_undone, .ref a_kept, .int m_undos, .int m_images, .ref a_from, .ref a_begin, .ref a_motor, .ref a_change, .ref a_startFrame, .ref a_changeFrame, .ref a_lostAt, .ref a_blackAt, .ref a_slips, .ref a_leftArc, .ref a_died, .ref a_arcs, .int m_bestSum, .int m_nearest, .int m_nearestTown, .ref a_there, .ref a_backAt, .ref a_sorted, .ref a_parts, .int m_seed1, .int m_darkNow])), (a_tape, .inl (g.2.2.1, 900, .inl d_tape)), (a_letters, .inl (g.2.2.1, 8, .inl d_letters2_64))] [(a_fresh, .inl (g.2.2.1, 311, .inl fa_84))] [1, 2, 3] [0] (m_after l g h0 sr_94 1 99 m_thrown a_tape m_taped m_size m_at2_62 m_end2_63 m_token2_66 m_whole2_67 m_nameSize2_65 u_54 u_51 m_trouble a_letters u_52 m_hasHouse a_r a_fresh a_st a_undone a_kept m_undos m_images a_from a_begin a_motor a_change a_startFrame a_changeFrame a_lostAt a_blackAt a_slips a_leftArc a_died a_arcs m_bestSum m_nearest m_nearestTown a_there a_backAt a_sorted a_parts m_seed1 m_darkNow d_tape d_letters2_64 ("snaps") (iv_w hv_m_size (by decide) (by decide)) (iv_w iv_69 (by decide) (by decide)) (iv_w iv_70 (by decide) (by decide)) (iv_w iv_61 (by decide) (by decide)) hsr_94 hk_73) dX11_weakLine_169 mw523 mw524 mw525 mw5 mw526 rfl 11 rfl rfl 0 _ rfl (by unfold yOk; decide) rfl (Nat.le_of_ble_eq_true rfl) (Nat.le_of_ble_eq_true rfl) (Nat.le_of_ble_eq_true rfl) (Nat.le_of_ble_eq_true rfl) (Nat.le_of_ble_eq_true rfl) rfl rfl (by decide) rfl (by decide) (by decide) ?_
          rintro r_104 w ⟨m_at2_95, m_end2_96, m_failed2_97, m_fault2_98, d_letters2_99, m_nameSize2_100, m_place2_101, m_token2_102, m_whole2_103, iv_105, iv_106, iv_107, hq_108, hq_109, hk_110, rfl⟩
          refine k_ws [(a_fresh, .inl (g.2.2.1, 311, .inl fa_84)), (h0, .inr (11, [.int m_thrown, .ref a_tape, .int m_taped, .int m_size, .int m_at2_95, .int m_end2_96, .int m_token2_102, .int m_whole2_103, .int m_nameSize2_100, .int m_fault2_98, .int m_place2_101, .int m_trouble, .ref a_letters, .int m_failed2_97, .int m_hasHouse, .ref a_r, .ref a_fresh, .ref a_st, .ref a_undone, .ref a_kept, .int m_undos, .int m_images, .ref a_from, .ref a_begin, .ref a_motor, .ref a_change, .ref a_startFrame, .ref a_changeFrame, .ref a_lostAt, .ref a_blackAt, .ref a_slips, .ref a_leftArc, .ref a_died, .ref a_arcs, .int m_bestSum, .int m_nearest, .int m_nearestTown, .ref a_there, .ref a_backAt, .ref a_sorted, .ref a_parts, .int m_seed1, .int m_darkNow])), (a_tape, .inl (g.2.2.1, 900, .inl d_tape)), (a_letters, .inl (g.2.2.1, 8, .inl d_letters2_99))] rfl ?_
          have e_111 : (1 : Int32).toInt = 1 := by decide
          have e_112 : (99 : Int32).toInt = 99 := by decide
          have iv_113 : IV r_104 1 99 := by have := (show IV 1 1 1 from (by decide)); have := (show IV 99 99 99 from (by decide)); rw [IV]; omega
          refine k_iast [(a_fresh, .inl (g.2.2.1, 311, .inl (upd fa_84 (z_91 : Int32).toNatClampNeg r_104))), (h0, .inr (11, [.int m_thrown, .ref a_tape, .int m_taped, .int m_size, .int m_at2_95, .int m_end2_96, .int m_token2_102, .int m_whole2_103, .int m_nameSize2_100, .int m_fault2_98, .int m_place2_101, .int m_trouble, .ref a_letters, .int m_failed2_97, .int m_hasHouse, .ref a_r, .ref a_fresh, .ref a_st, .ref a_undone, .ref a_kept, .int m_undos, .int m_images, .ref a_from, .ref a_begin, .ref a_motor, .ref a_change, .ref a_startFrame, .ref a_changeFrame, .ref a_lostAt, .ref a_blackAt, .ref a_slips, .ref a_leftArc, .ref a_died, .ref a_arcs, .int m_bestSum, .int m_nearest, .int m_nearestTown, .ref a_there, .ref a_backAt, .ref a_sorted, .ref a_parts, .int m_seed1, .int m_darkNow])), (a_tape, .inl (g.2.2.1, 900, .inl d_tape)), (a_letters, .inl (g.2.2.1, 8, .inl d_letters2_99))] X dX11_weakLine_172 0 rfl (iv_in iv_93 (by decide) (by decide)) rfl ?_
          have i_116 : z_91.toInt = 98 + 3 * z_5.toInt := by omega
          refine (fun hg : ∀ fa_114 : Nat → Int32, fa_114 = upd fa_84 (z_91 : Int32).toNatClampNeg r_104 → RInv fa_114 → K16 fa_84 fa_114 → Wk p l e _ s m args below meth c _ A g _ _ _ [(a_fresh, .inl (g.2.2.1, 311, .inl fa_114)), (h0, .inr (11, [.int m_thrown, .ref a_tape, .int m_taped, .int m_size, .int m_at2_95, .int m_end2_96, .int m_token2_102, .int m_whole2_103, .int m_nameSize2_100, .int m_fault2_98, .int m_place2_101, .int m_trouble, .ref a_letters, .int m_failed2_97, .int m_hasHouse, .ref a_r, .ref a_fresh, .ref a_st, .ref a_undone, .ref a_kept, .int m_undos, .int m_images, .ref a_from, .ref a_begin, .ref a_motor, .ref a_change, .ref a_startFrame, .ref a_changeFrame, .ref a_lostAt, .ref a_blackAt, .ref a_slips, .ref a_leftArc, .ref a_died, .ref a_arcs, .int m_bestSum, .int m_nearest, .int m_nearestTown, .ref a_there, .ref a_backAt, .ref a_sorted, .ref a_parts, .int m_seed1, .int m_darkNow])), (a_tape, .inl (g.2.2.1, 900, .inl d_tape)), (a_letters, .inl (g.2.2.1, 8, .inl d_letters2_99))] _ _ _ => hg _ rfl (w_fr_98_3 hR_85 i_116 (iv_w iv_7 (by decide) (by decide))) (k16_u (z := z_91) (by have := iv_93; omega))) (fun fa_114 eq_118 hR_115 hk_117 => ?_)
          have ek_119 : z_5 = fa_114 (10 : Int32).toNatClampNeg := ek_89.trans (hk_117 _ (by decide)).symm
          have hT_120 : TRI fa_114 := by have := iv_93; exact tri_z (z := z_91) eq_118 hT_90 hR_85 (by omega) (by omega) (by omega) (by omega) (by omega)
          refine k_aload_n X dX11_weakLine_173 4 rfl ?_
          refine k_get (ci := 11) X inlX11 rfl 13 (by decide) dX11_weakLine_174 mw469 1 rfl rfl ?_
          refine k_if_ne 191 X dX11_weakLine_177 (by decide) (fun h_121 => ?_) (fun h_121 => ?_)
          · skip
            have iv_122 : IV m_failed2_97 1 1 := iv_neL h_121 iv_106 (show IV 0 0 0 from (by decide)) (by decide)
            exact k_vret X hr dX11_weakLine_191 (Nat.le_of_ble_eq_true rfl) (Nat.le_of_ble_eq_true rfl) [1, 2, 3, 0] (by decide) rfl rfl ⟨m_at2_95, m_end2_96, m_failed2_97, m_fault2_98, fa_114, d_letters2_99, m_nameSize2_100, m_place2_101, m_token2_102, m_whole2_103, (iv_w iv_105 (by decide) (by decide)), (iv_w iv_122 (by decide) (by decide)), (iv_w iv_107 (by decide) (by decide)), hR_115, (by omega), hT_120, hk_110, rfl⟩
          · skip
            have iv_123 : IV m_failed2_97 0 0 := iv_meet iv_106 (iv_e h_121 (show IV 0 0 0 from (by decide))) (by decide) (by decide)
            refine k_aload_n X dX11_weakLine_180 4 rfl ?_
            refine k_get (ci := 11) X inlX11 rfl 16 (by decide) dX11_weakLine_181 mw171 1 rfl rfl ?_
            refine k_bipush (v := 10) X dX11_weakLine_184 (by decide) ?_
            refine k_dup2 X dX11_weakLine_186 rfl rfl ?_
            refine k_iald X dX11_weakLine_187 0 rfl (by unfold vp_in; decide) ?_
            refine k_to z_5 ek_119.symm ?_
            refine k_iconst (v := 1) X dX11_weakLine_188 (by decide) ?_
            refine k_iadd X dX11_weakLine_189 ?_
            refine k_nm (fun z_124 ez_124 => ?_)
            have i_125 : z_124.toInt = z_5.toInt + 1 := in_add ez_124 iv_7 (show IV 1 1 1 from (by decide)) (by decide) (by decide)
            have iv_126 : IV z_124 1 6 := by have := iv_7; have := (show IV 1 1 1 from (by decide)); rw [IV, i_125]; omega
            refine k_iast [(a_fresh, .inl (g.2.2.1, 311, .inl (upd fa_114 (10 : Int32).toNatClampNeg z_124))), (h0, .inr (11, [.int m_thrown, .ref a_tape, .int m_taped, .int m_size, .int m_at2_95, .int m_end2_96, .int m_token2_102, .int m_whole2_103, .int m_nameSize2_100, .int m_fault2_98, .int m_place2_101, .int m_trouble, .ref a_letters, .int m_failed2_97, .int m_hasHouse, .ref a_r, .ref a_fresh, .ref a_st, .ref a_undone, .ref a_kept, .int m_undos, .int m_images, .ref a_from, .ref a_begin, .ref a_motor, .ref a_change, .ref a_startFrame, .ref a_changeFrame, .ref a_lostAt, .ref a_blackAt, .ref a_slips, .ref a_leftArc, .ref a_died, .ref a_arcs, .int m_bestSum, .int m_nearest, .int m_nearestTown, .ref a_there, .ref a_backAt, .ref a_sorted, .ref a_parts, .int m_seed1, .int m_darkNow])), (a_tape, .inl (g.2.2.1, 900, .inl d_tape)), (a_letters, .inl (g.2.2.1, 8, .inl d_letters2_99))] X dX11_weakLine_190 0 rfl (by unfold vp_in; decide) rfl ?_
            refine (fun hg : ∀ fa_127 : Nat → Int32, fa_127 = upd fa_114 (10 : Int32).toNatClampNeg z_124 → RInv fa_127 → Wk p l e _ s m args below meth c _ A g _ _ _ [(a_fresh, .inl (g.2.2.1, 311, .inl fa_127)), (h0, .inr (11, [.int m_thrown, .ref a_tape, .int m_taped, .int m_size, .int m_at2_95, .int m_end2_96, .int m_token2_102, .int m_whole2_103, .int m_nameSize2_100, .int m_fault2_98, .int m_place2_101, .int m_trouble, .ref a_letters, .int m_failed2_97, .int m_hasHouse, .ref a_r, .ref a_fresh, .ref a_st, .ref a_undone, .ref a_kept, .int m_undos, .int m_images, .ref a_from, .ref a_begin, .ref a_motor, .ref a_change, .ref a_startFrame, .ref a_changeFrame, .ref a_lostAt, .ref a_blackAt, .ref a_slips, .ref a_leftArc, .ref a_died, .ref a_arcs, .int m_bestSum, .int m_nearest, .int m_nearestTown, .ref a_there, .ref a_backAt, .ref a_sorted, .ref a_parts, .int m_seed1, .int m_darkNow])), (a_tape, .inl (g.2.2.1, 900, .inl d_tape)), (a_letters, .inl (g.2.2.1, 8, .inl d_letters2_99))] _ _ _ => hg _ rfl (w_rb_10 hR_115 (iv_w iv_126 (by decide) (by decide)))) (fun fa_127 eq_130 hR_128 => ?_)
            have hT_131 : TRI fa_127 := by rw [eq_130]; exact tri_n (z := 10) hT_120 hR_115 (by decide) (by decide) (by decide) (by decide)
            exact k_vret X hr dX11_weakLine_191 (Nat.le_of_ble_eq_true rfl) (Nat.le_of_ble_eq_true rfl) [1, 2, 3, 0] (by decide) rfl rfl ⟨m_at2_95, m_end2_96, m_failed2_97, m_fault2_98, fa_127, d_letters2_99, m_nameSize2_100, m_place2_101, m_token2_102, m_whole2_103, (iv_w iv_105 (by decide) (by decide)), (iv_w iv_123 (by decide) (by decide)), (iv_w iv_107 (by decide) (by decide)), hR_128, (by omega), hT_131, hk_110, rfl⟩
        · skip
          have iv_132 : IV u_52 1 1 := iv_neL h_60 hv_53 (show IV 0 0 0 from (by decide)) (by decide)
          exact k_vret X hr dX11_weakLine_134 (Nat.le_of_ble_eq_true rfl) (Nat.le_of_ble_eq_true rfl) [3, 0, 1, 2] (by decide) rfl rfl ⟨m_at2_14, m_end2_15, u_52, u_54, d_fresh, d_letters2_18, m_nameSize2_19, u_51, m_token2_21, m_whole2_22, (iv_w iv_24 (by decide) (by decide)), (iv_w iv_132 (by decide) (by decide)), (iv_w iv_26 (by decide) (by decide)), hp_d_fresh, (by omega), hr_0, hk_29, rfl⟩
      · skip
        have j_133 : u_49.toInt < z_5.toInt := iv_nle h_58
        have iv_134 : IV u_49 0 4 := iv_ltL (iv_nle h_58) hv_50 iv_7 (by decide)
        have iv_135 : IV z_5 1 5 := iv_ltR (iv_nle h_58) hv_50 iv_7 (by decide)
        refine k_aload_n X dX11_weakLine_71 4 rfl ?_
        refine k_get (ci := 11) X inlX11 rfl 13 (by decide) dX11_weakLine_72 mw469 3 rfl rfl ?_
        refine k_if_ne 121 X dX11_weakLine_75 (by decide) (fun h_136 => ?_) (fun h_136 => ?_)
        · skip
          have iv_137 : IV u_52 1 1 := iv_neL h_136 hv_53 (show IV 0 0 0 from (by decide)) (by decide)
          obtain ⟨z_138, ez_138⟩ : ∃ y : Int32, u_49 + Int32.ofInt 1 = y := ⟨_, rfl⟩
          refine k_iinc z_138 [(4, .int z_138), (3, .int r_44), (2, .int r_23), (1, .int z_11), (0, .ref h0)] 0 X dX11_weakLine_121 rfl ez_138 (by decide) rfl ?_
          have i_139 : z_138.toInt = u_49.toInt + 1 := in_inc ez_138 (by decide) iv_134 (by decide) (by decide)
          have iv_140 : IV z_138 1 5 := by have := iv_134; rw [IV, i_139]; omega
          refine k_goto 59 X dX11_weakLine_124 (by decide) ?_
          exact ih_57 _ (by omega) z_138 u_51 u_52 u_54 rfl (iv_w iv_140 (by decide) (by decide)) (iv_w iv_137 (by decide) (by decide))
        · skip
          have iv_141 : IV u_52 0 0 := iv_meet hv_53 (iv_e h_136 (show IV 0 0 0 from (by decide))) (by decide) (by decide)
          refine k_aload_n X dX11_weakLine_78 4 rfl ?_
          refine k_get (ci := 11) X inlX11 rfl 16 (by decide) dX11_weakLine_79 mw171 3 rfl rfl ?_
          refine k_bipush (v := 96) X dX11_weakLine_82 (by decide) ?_
          refine k_iconst (v := 3) X dX11_weakLine_84 (by decide) ?_
          refine k_iload X dX11_weakLine_85 0 rfl ?_
          refine k_imul X dX11_weakLine_87 ?_
          refine k_nm (fun z_142 ez_142 => ?_)
          have i_143 : z_142.toInt = 3 * u_49.toInt := in_mul ez_142 (by decide) (by decide) iv_134 (by decide) (by decide)
          have iv_144 : IV z_142 0 12 := by have := (show IV 3 3 3 from (by decide)); have := iv_134; rw [IV, i_143]; omega
          refine k_iadd X dX11_weakLine_88 ?_
          refine k_nm (fun z_145 ez_145 => ?_)
          have i_146 : z_145.toInt = 96 + z_142.toInt := in_add ez_145 (show IV 96 96 96 from (by decide)) iv_144 (by decide) (by decide)
          have iv_147 : IV z_145 96 108 := by have := (show IV 96 96 96 from (by decide)); have := iv_144; rw [IV, i_146]; omega
          refine k_iald X dX11_weakLine_89 2 rfl (iv_in iv_147 (by decide) (by decide)) ?_
          refine k_nm (fun z_148 ez_148 => ?_)
          have i_149 : z_145.toInt = 96 + 3 * u_49.toInt := by omega
          have iv_150 : IV z_148 0 7 := rb_96_3 ez_148 hp_d_fresh i_149 (iv_w iv_134 (by decide) (by decide))
          refine k_iload_n X dX11_weakLine_90 2 rfl ?_
          refine k_ic_ne 121 X dX11_weakLine_91 (by decide) (fun h_151 => ?_) (fun h_151 => ?_)
          · skip
            obtain ⟨z_152, ez_152⟩ : ∃ y : Int32, u_49 + Int32.ofInt 1 = y := ⟨_, rfl⟩
            refine k_iinc z_152 [(4, .int z_152), (3, .int r_44), (2, .int r_23), (1, .int z_11), (0, .ref h0)] 0 X dX11_weakLine_121 rfl ez_152 (by decide) rfl ?_
            have i_153 : z_152.toInt = u_49.toInt + 1 := in_inc ez_152 (by decide) iv_134 (by decide) (by decide)
            have iv_154 : IV z_152 1 5 := by have := iv_134; rw [IV, i_153]; omega
            refine k_goto 59 X dX11_weakLine_124 (by decide) ?_
            exact ih_57 _ (by omega) z_152 u_51 u_52 u_54 rfl (iv_w iv_154 (by decide) (by decide)) (iv_w iv_141 (by decide) (by decide))
          · skip
            refine k_aload_n X dX11_weakLine_94 4 rfl ?_
            refine k_get (ci := 11) X inlX11 rfl 16 (by decide) dX11_weakLine_95 mw171 3 rfl rfl ?_
            refine k_bipush (v := 96) X dX11_weakLine_98 (by decide) ?_
            refine k_iconst (v := 3) X dX11_weakLine_100 (by decide) ?_
            refine k_iload X dX11_weakLine_101 0 rfl ?_
            refine k_imul X dX11_weakLine_103 ?_
            refine k_to z_142 ez_142.symm ?_
            refine k_iadd X dX11_weakLine_104 ?_
            refine k_to z_145 ez_145.symm ?_
            refine k_iconst (v := 1) X dX11_weakLine_105 (by decide) ?_
            refine k_iadd X dX11_weakLine_106 ?_
            refine k_nm (fun z_155 ez_155 => ?_)
            have i_156 : z_155.toInt = z_145.toInt + 1 := in_add ez_155 iv_147 (show IV 1 1 1 from (by decide)) (by decide) (by decide)
            have iv_157 : IV z_155 97 109 := by have := iv_147; have := (show IV 1 1 1 from (by decide)); rw [IV, i_156]; omega
            refine k_iald X dX11_weakLine_107 2 rfl (iv_in iv_157 (by decide) (by decide)) ?_
            refine k_nm (fun z_158 ez_158 => ?_)
            refine k_iload_n X dX11_weakLine_108 1 rfl ?_
            refine k_ic_ne 121 X dX11_weakLine_109 (by decide) (fun h_159 => ?_) (fun h_159 => ?_)
            · skip
              obtain ⟨z_160, ez_160⟩ : ∃ y : Int32, u_49 + Int32.ofInt 1 = y := ⟨_, rfl⟩
              refine k_iinc z_160 [(4, .int z_160), (3, .int r_44), (2, .int r_23), (1, .int z_11), (0, .ref h0)] 0 X dX11_weakLine_121 rfl ez_160 (by decide) rfl ?_
              have i_161 : z_160.toInt = u_49.toInt + 1 := in_inc ez_160 (by decide) iv_134 (by decide) (by decide)
              have iv_162 : IV z_160 1 5 := by have := iv_134; rw [IV, i_161]; omega
              refine k_goto 59 X dX11_weakLine_124 (by decide) ?_
              exact ih_57 _ (by omega) z_160 u_51 u_52 u_54 rfl (iv_w iv_162 (by decide) (by decide)) (iv_w iv_141 (by decide) (by decide))
            · skip
              have iv_163 : IV z_158 0 2147483647 := iv_meet (iv_any z_158) (iv_e h_159 iv_48) (by decide) (by decide)
              refine k_aload_n X dX11_weakLine_112 4 rfl ?_
              refine k_iconst (v := 3) X dX11_weakLine_113 (by decide) ?_
              refine k_aload_n X dX11_weakLine_114 4 rfl ?_
              refine k_get (ci := 11) X inlX11 rfl 4 (by decide) dX11_weakLine_115 mw473 3 rfl rfl ?_
              refine k_callVV (n := 2) (As := [.int 3, .int m_at2_14]) (st := []) X [(h0, .inr (11, [.int m_thrown, .ref a_tape, .int m_taped, .int m_size, .int m_at2_14, .int m_end2_15, .int m_token2_21, .int m_whole2_22, .int m_nameSize2_19, .int u_54, .int u_51, .int m_trouble, .ref a_letters, .int u_52, .int m_hasHouse, .ref a_r, .ref a_fresh, .ref a_st, .ref a_undone, .ref a_kept, .int m_undos, .int m_images, .ref a_from, .ref a_begin, .ref a_motor, .ref a_change, .ref a_startFrame, .ref a_changeFrame, .ref a_lostAt, .ref a_blackAt, .ref a_slips, .ref a_leftArc, .ref a_died, .ref a_arcs, .int m_bestSum, .int m_nearest, .int m_nearestTown, .ref a_there, .ref a_backAt, .ref a_sorted, .ref a_parts, .int m_seed1, .int m_darkNow]))] [(a_tape, .inl (g.2.2.1, 900, .inl d_tape)), (a_letters, .inl (g.2.2.1, 8, .inl d_letters2_18)), (a_fresh, .inl (g.2.2.1, 311, .inl d_fresh))] [3] [0, 1, 2] (m_bad l g h0 3 m_at2_14 m_thrown a_tape m_taped m_size m_at2_14 m_end2_15 m_token2_21 m_whole2_22 m_nameSize2_19 u_54 u_51 m_trouble a_letters u_52 m_hasHouse a_r a_fresh a_st a_undone a_kept m_undos m_images a_from a_begin a_motor a_change a_startFrame a_changeFrame a_lostAt a_blackAt a_slips a_leftArc a_died a_arcs m_bestSum m_nearest m_nearestTown a_there a_backAt a_sorted a_parts m_seed1 m_darkNow (iv_w iv_141 (by decide) (by decide))) dX11_weakLine_118 mw519 mw520 mw521 mw5 mw522 rfl 11 rfl rfl 0 _ rfl (by unfold yOk; decide) rfl (Nat.le_of_ble_eq_true rfl) (Nat.le_of_ble_eq_true rfl) (Nat.le_of_ble_eq_true rfl) (Nat.le_of_ble_eq_true rfl) (Nat.le_of_ble_eq_true rfl) rfl rfl (by decide) rfl (by decide) (by decide) ?_
              rintro w ⟨m_failed2_164, m_fault2_165, m_place2_166, iv_168, rfl⟩
              refine k_ws [(a_tape, .inl (g.2.2.1, 900, .inl d_tape)), (a_letters, .inl (g.2.2.1, 8, .inl d_letters2_18)), (a_fresh, .inl (g.2.2.1, 311, .inl d_fresh)), (h0, .inr (11, [.int m_thrown, .ref a_tape, .int m_taped, .int m_size, .int m_at2_14, .int m_end2_15, .int m_token2_21, .int m_whole2_22, .int m_nameSize2_19, .int m_fault2_165, .int m_place2_166, .int m_trouble, .ref a_letters, .int m_failed2_164, .int m_hasHouse, .ref a_r, .ref a_fresh, .ref a_st, .ref a_undone, .ref a_kept, .int m_undos, .int m_images, .ref a_from, .ref a_begin, .ref a_motor, .ref a_change, .ref a_startFrame, .ref a_changeFrame, .ref a_lostAt, .ref a_blackAt, .ref a_slips, .ref a_leftArc, .ref a_died, .ref a_arcs, .int m_bestSum, .int m_nearest, .int m_nearestTown, .ref a_there, .ref a_backAt, .ref a_sorted, .ref a_parts, .int m_seed1, .int m_darkNow]))] rfl ?_
              obtain ⟨z_169, ez_169⟩ : ∃ y : Int32, u_49 + Int32.ofInt 1 = y := ⟨_, rfl⟩
              refine k_iinc z_169 [(4, .int z_169), (3, .int r_44), (2, .int r_23), (1, .int z_11), (0, .ref h0)] 0 X dX11_weakLine_121 rfl ez_169 (by decide) rfl ?_
              have i_170 : z_169.toInt = u_49.toInt + 1 := in_inc ez_169 (by decide) iv_134 (by decide) (by decide)
              have iv_171 : IV z_169 1 5 := by have := iv_134; rw [IV, i_170]; omega
              refine k_goto 59 X dX11_weakLine_124 (by decide) ?_
              exact ih_57 _ (by omega) z_169 m_place2_166 m_failed2_164 m_fault2_165 rfl (iv_w iv_171 (by decide) (by decide)) (iv_w iv_168 (by decide) (by decide))
    · skip
      have iv_172 : IV m_failed2_16 1 1 := iv_neL h_30 iv_25 (show IV 0 0 0 from (by decide)) (by decide)
      refine k_iconst (v := 0) X dX11_weakLine_33 (by decide) ?_
      refine k_goto 55 X dX11_weakLine_34 (by decide) ?_
      refine k_istore_n [(3, .int 0), (2, .int r_23), (1, .int z_11), (0, .ref h0)] X dX11_weakLine_55 (by decide) rfl ?_
      refine k_iconst (v := 0) X dX11_weakLine_56 (by decide) ?_
      refine k_istore [(4, .int 0), (3, .int 0), (2, .int r_23), (1, .int z_11), (0, .ref h0)] X dX11_weakLine_57 (by decide) rfl ?_
      refine (fun hL : ∀ (nn_175 : Nat) (u_173 : Int32), (z_5.toInt - u_173.toInt).toNat = nn_175 → (IV u_173 0 8) → Wk p l e _ s m args below meth c _ A g _ _ _ [(h0, .inr (11, [.int m_thrown, .ref a_tape, .int m_taped, .int m_size, .int m_at2_14, .int m_end2_15, .int m_token2_21, .int m_whole2_22, .int m_nameSize2_19, .int m_fault2_17, .int m_place2_20, .int m_trouble, .ref a_letters, .int m_failed2_16, .int m_hasHouse, .ref a_r, .ref a_fresh, .ref a_st, .ref a_undone, .ref a_kept, .int m_undos, .int m_images, .ref a_from, .ref a_begin, .ref a_motor, .ref a_change, .ref a_startFrame, .ref a_changeFrame, .ref a_lostAt, .ref a_blackAt, .ref a_slips, .ref a_leftArc, .ref a_died, .ref a_arcs, .int m_bestSum, .int m_nearest, .int m_nearestTown, .ref a_there, .ref a_backAt, .ref a_sorted, .ref a_parts, .int m_seed1, .int m_darkNow])), (a_tape, .inl (g.2.2.1, 900, .inl d_tape)), (a_letters, .inl (g.2.2.1, 8, .inl d_letters2_18)), (a_fresh, .inl (g.2.2.1, 311, .inl d_fresh))] [(4, .int u_173), (3, .int 0), (2, .int r_23), (1, .int z_11), (0, .ref h0)] 59 [] => hL _ 0 rfl (iv_w (show IV 0 0 0 from (by decide)) (by decide) (by decide))) ?_
      refine fun nn_175 => Nat.strongRecOn nn_175 (fun nn_175 ih_177 => ?_)
      intro u_173 hm_176 hv_174
      refine k_iload X dX11_weakLine_59 0 rfl ?_
      refine k_aload_n X dX11_weakLine_61 4 rfl ?_
      refine k_get (ci := 11) X inlX11 rfl 16 (by decide) dX11_weakLine_62 mw171 0 rfl rfl ?_
      refine k_bipush (v := 10) X dX11_weakLine_65 (by decide) ?_
      refine k_iald X dX11_weakLine_67 3 rfl (by unfold vp_in; decide) ?_
      refine k_to z_5 ez_5.symm ?_
      refine k_ic_ge 127 X dX11_weakLine_68 (by decide) (fun h_178 => ?_) (fun h_178 => ?_)
      · skip
        have j_179 : z_5.toInt ≤ u_173.toInt := iv_le h_178
        refine k_aload_n X dX11_weakLine_127 4 rfl ?_
        refine k_get (ci := 11) X inlX11 rfl 13 (by decide) dX11_weakLine_128 mw469 0 rfl rfl ?_
        refine k_if_eq 135 X dX11_weakLine_131 (by decide) (fun h_180 => (iv_eqN h_180 iv_172 (show IV 0 0 0 from (by decide)) (by decide)).elim) (fun h_180 => ?_)
        exact k_vret X hr dX11_weakLine_134 (Nat.le_of_ble_eq_true rfl) (Nat.le_of_ble_eq_true rfl) [0, 1, 2, 3] (by decide) rfl rfl ⟨m_at2_14, m_end2_15, m_failed2_16, m_fault2_17, d_fresh, d_letters2_18, m_nameSize2_19, m_place2_20, m_token2_21, m_whole2_22, (iv_w iv_24 (by decide) (by decide)), (iv_w iv_172 (by decide) (by decide)), (iv_w iv_26 (by decide) (by decide)), hp_d_fresh, (by omega), hr_0, hk_29, rfl⟩
      · skip
        have j_181 : u_173.toInt < z_5.toInt := iv_nle h_178
        have iv_182 : IV u_173 0 4 := iv_ltL (iv_nle h_178) hv_174 iv_7 (by decide)
        have iv_183 : IV z_5 1 5 := iv_ltR (iv_nle h_178) hv_174 iv_7 (by decide)
        refine k_aload_n X dX11_weakLine_71 4 rfl ?_
        refine k_get (ci := 11) X inlX11 rfl 13 (by decide) dX11_weakLine_72 mw469 0 rfl rfl ?_
        refine k_if_ne 121 X dX11_weakLine_75 (by decide) (fun h_184 => ?_) (fun h_184 => (iv_eqN h_184 iv_172 (show IV 0 0 0 from (by decide)) (by decide)).elim)
        obtain ⟨z_185, ez_185⟩ : ∃ y : Int32, u_173 + Int32.ofInt 1 = y := ⟨_, rfl⟩
        refine k_iinc z_185 [(4, .int z_185), (3, .int 0), (2, .int r_23), (1, .int z_11), (0, .ref h0)] 0 X dX11_weakLine_121 rfl ez_185 (by decide) rfl ?_
        have i_186 : z_185.toInt = u_173.toInt + 1 := in_inc ez_185 (by decide) iv_182 (by decide) (by decide)
        have iv_187 : IV z_185 1 5 := by have := iv_182; rw [IV, i_186]; omega
        refine k_goto 59 X dX11_weakLine_124 (by decide) ?_
        exact ih_177 _ (by omega) z_185 rfl (iv_w iv_187 (by decide) (by decide))
  · skip
    have iv_188 : IV m_failed 1 1 := iv_neL h_1 hv_m_failed (show IV 0 0 0 from (by decide)) (by decide)
    exact k_vret X hr dX11_weakLine_7 (Nat.le_of_ble_eq_true rfl) (Nat.le_of_ble_eq_true rfl) [0, 1, 2, 3] (by decide) rfl rfl ⟨m_at, m_end, m_failed, m_fault, d_fresh, d_letters, m_nameSize, m_place, m_token, m_whole, (iv_w hv_m_end (by decide) (by decide)), (iv_w iv_188 (by decide) (by decide)), (iv_w hv_m_nameSize (by decide) (by decide)), hp_d_fresh, (by omega), hr_0, hc_1, rfl⟩

theorem dX11_manLine_0 : decode cX11_manLine 0 = .ok (.aload_n 0, 1) := by decide +kernel
theorem dX11_manLine_1 : decode cX11_manLine 1 = .ok (.getfield 121, 3) := by decide +kernel
theorem dX11_manLine_4 : decode cX11_manLine 4 = .ok (.ifCond .eq 4, 3) := by decide +kernel
theorem dX11_manLine_7 : decode cX11_manLine 7 = .ok (.return_, 1) := by decide +kernel
theorem dX11_manLine_8 : decode cX11_manLine 8 = .ok (.bipush 114, 2) := by decide +kernel
theorem dX11_manLine_10 : decode cX11_manLine 10 = .ok (.iconst 3, 1) := by decide +kernel
theorem dX11_manLine_11 : decode cX11_manLine 11 = .ok (.aload_n 0, 1) := by decide +kernel
theorem dX11_manLine_12 : decode cX11_manLine 12 = .ok (.getfield 23, 3) := by decide +kernel
theorem dX11_manLine_15 : decode cX11_manLine 15 = .ok (.bipush 11, 2) := by decide +kernel
theorem dX11_manLine_17 : decode cX11_manLine 17 = .ok (.iaload, 1) := by decide +kernel
theorem dX11_manLine_18 : decode cX11_manLine 18 = .ok (.imul, 1) := by decide +kernel
theorem dX11_manLine_19 : decode cX11_manLine 19 = .ok (.iadd, 1) := by decide +kernel
theorem dX11_manLine_20 : decode cX11_manLine 20 = .ok (.istore_n 1, 1) := by decide +kernel
theorem dX11_manLine_21 : decode cX11_manLine 21 = .ok (.aload_n 0, 1) := by decide +kernel
theorem dX11_manLine_22 : decode cX11_manLine 22 = .ok (.bipush 12, 2) := by decide +kernel
theorem dX11_manLine_24 : decode cX11_manLine 24 = .ok (.aload_n 0, 1) := by decide +kernel
theorem dX11_manLine_25 : decode cX11_manLine 25 = .ok (.getfield 23, 3) := by decide +kernel
theorem dX11_manLine_28 : decode cX11_manLine 28 = .ok (.bipush 11, 2) := by decide +kernel
theorem dX11_manLine_30 : decode cX11_manLine 30 = .ok (.iaload, 1) := by decide +kernel
theorem dX11_manLine_31 : decode cX11_manLine 31 = .ok (.iadd, 1) := by decide +kernel
theorem dX11_manLine_32 : decode cX11_manLine 32 = .ok (.invokevirtual 277, 3) := by decide +kernel
theorem dX11_manLine_35 : decode cX11_manLine 35 = .ok (.aload_n 0, 1) := by decide +kernel
theorem dX11_manLine_36 : decode cX11_manLine 36 = .ok (.ldc_w 298, 3) := by decide +kernel
theorem dX11_manLine_39 : decode cX11_manLine 39 = .ok (.invokevirtual 138, 3) := by decide +kernel
theorem dX11_manLine_42 : decode cX11_manLine 42 = .ok (.ifCond .eq 7, 3) := by decide +kernel
theorem dX11_manLine_45 : decode cX11_manLine 45 = .ok (.iconst 0, 1) := by decide +kernel
theorem dX11_manLine_46 : decode cX11_manLine 46 = .ok (.goto 46, 3) := by decide +kernel
theorem dX11_manLine_49 : decode cX11_manLine 49 = .ok (.aload_n 0, 1) := by decide +kernel
theorem dX11_manLine_50 : decode cX11_manLine 50 = .ok (.ldc_w 300, 3) := by decide +kernel
theorem dX11_manLine_53 : decode cX11_manLine 53 = .ok (.invokevirtual 138, 3) := by decide +kernel
theorem dX11_manLine_56 : decode cX11_manLine 56 = .ok (.ifCond .eq 7, 3) := by decide +kernel
theorem dX11_manLine_59 : decode cX11_manLine 59 = .ok (.iconst 1, 1) := by decide +kernel
theorem dX11_manLine_60 : decode cX11_manLine 60 = .ok (.goto 32, 3) := by decide +kernel
theorem dX11_manLine_63 : decode cX11_manLine 63 = .ok (.aload_n 0, 1) := by decide +kernel
theorem dX11_manLine_64 : decode cX11_manLine 64 = .ok (.ldc_w 302, 3) := by decide +kernel
theorem dX11_manLine_67 : decode cX11_manLine 67 = .ok (.invokevirtual 138, 3) := by decide +kernel
theorem dX11_manLine_70 : decode cX11_manLine 70 = .ok (.ifCond .eq 7, 3) := by decide +kernel
theorem dX11_manLine_73 : decode cX11_manLine 73 = .ok (.iconst 2, 1) := by decide +kernel
theorem dX11_manLine_74 : decode cX11_manLine 74 = .ok (.goto 18, 3) := by decide +kernel
theorem dX11_manLine_77 : decode cX11_manLine 77 = .ok (.aload_n 0, 1) := by decide +kernel
theorem dX11_manLine_78 : decode cX11_manLine 78 = .ok (.ldc_w 304, 3) := by decide +kernel
theorem dX11_manLine_81 : decode cX11_manLine 81 = .ok (.invokevirtual 138, 3) := by decide +kernel
theorem dX11_manLine_84 : decode cX11_manLine 84 = .ok (.ifCond .eq 7, 3) := by decide +kernel
theorem dX11_manLine_87 : decode cX11_manLine 87 = .ok (.iconst 3, 1) := by decide +kernel
theorem dX11_manLine_88 : decode cX11_manLine 88 = .ok (.goto 4, 3) := by decide +kernel
theorem dX11_manLine_91 : decode cX11_manLine 91 = .ok (.iconst (-1), 1) := by decide +kernel
theorem dX11_manLine_92 : decode cX11_manLine 92 = .ok (.istore_n 2, 1) := by decide +kernel
theorem dX11_manLine_93 : decode cX11_manLine 93 = .ok (.iload_n 2, 1) := by decide +kernel
theorem dX11_manLine_94 : decode cX11_manLine 94 = .ok (.ifCond .ge 12, 3) := by decide +kernel
theorem dX11_manLine_97 : decode cX11_manLine 97 = .ok (.aload_n 0, 1) := by decide +kernel
theorem dX11_manLine_98 : decode cX11_manLine 98 = .ok (.iconst 1, 1) := by decide +kernel
theorem dX11_manLine_99 : decode cX11_manLine 99 = .ok (.aload_n 0, 1) := by decide +kernel
theorem dX11_manLine_100 : decode cX11_manLine 100 = .ok (.getfield 102, 3) := by decide +kernel
theorem dX11_manLine_103 : decode cX11_manLine 103 = .ok (.invokevirtual 148, 3) := by decide +kernel
theorem dX11_manLine_106 : decode cX11_manLine 106 = .ok (.aload_n 0, 1) := by decide +kernel
theorem dX11_manLine_107 : decode cX11_manLine 107 = .ok (.getfield 121, 3) := by decide +kernel
theorem dX11_manLine_110 : decode cX11_manLine 110 = .ok (.ifCond .eq 4, 3) := by decide +kernel
theorem dX11_manLine_113 : decode cX11_manLine 113 = .ok (.return_, 1) := by decide +kernel
theorem dX11_manLine_114 : decode cX11_manLine 114 = .ok (.aload_n 0, 1) := by decide +kernel
theorem dX11_manLine_115 : decode cX11_manLine 115 = .ok (.invokevirtual 142, 3) := by decide +kernel
theorem dX11_manLine_118 : decode cX11_manLine 118 = .ok (.iconst 0, 1) := by decide +kernel
theorem dX11_manLine_119 : decode cX11_manLine 119 = .ok (.istore_n 3, 1) := by decide +kernel
theorem dX11_manLine_120 : decode cX11_manLine 120 = .ok (.iload_n 2, 1) := by decide +kernel
theorem dX11_manLine_121 : decode cX11_manLine 121 = .ok (.iconst 3, 1) := by decide +kernel
theorem dX11_manLine_122 : decode cX11_manLine 122 = .ok (.if_icmp .ne 23, 3) := by decide +kernel
theorem dX11_manLine_125 : decode cX11_manLine 125 = .ok (.aload_n 0, 1) := by decide +kernel
theorem dX11_manLine_126 : decode cX11_manLine 126 = .ok (.bipush 8, 2) := by decide +kernel
theorem dX11_manLine_128 : decode cX11_manLine 128 = .ok (.bipush 11, 2) := by decide +kernel
theorem dX11_manLine_130 : decode cX11_manLine 130 = .ok (.invokevirtual 186, 3) := by decide +kernel
theorem dX11_manLine_133 : decode cX11_manLine 133 = .ok (.istore_n 3, 1) := by decide +kernel
theorem dX11_manLine_134 : decode cX11_manLine 134 = .ok (.aload_n 0, 1) := by decide +kernel
theorem dX11_manLine_135 : decode cX11_manLine 135 = .ok (.getfield 121, 3) := by decide +kernel
theorem dX11_manLine_138 : decode cX11_manLine 138 = .ok (.ifCond .ne 7, 3) := by decide +kernel
theorem dX11_manLine_141 : decode cX11_manLine 141 = .ok (.aload_n 0, 1) := by decide +kernel
theorem dX11_manLine_142 : decode cX11_manLine 142 = .ok (.invokevirtual 142, 3) := by decide +kernel
theorem dX11_manLine_145 : decode cX11_manLine 145 = .ok (.aload_n 0, 1) := by decide +kernel
theorem dX11_manLine_146 : decode cX11_manLine 146 = .ok (.ldc_w 306, 3) := by decide +kernel
theorem dX11_manLine_149 : decode cX11_manLine 149 = .ok (.iconst 0, 1) := by decide +kernel
theorem dX11_manLine_150 : decode cX11_manLine 150 = .ok (.bipush 40, 2) := by decide +kernel
theorem dX11_manLine_152 : decode cX11_manLine 152 = .ok (.invokevirtual 264, 3) := by decide +kernel
theorem dX11_manLine_155 : decode cX11_manLine 155 = .ok (.istore 4, 2) := by decide +kernel
theorem dX11_manLine_157 : decode cX11_manLine 157 = .ok (.aload_n 0, 1) := by decide +kernel
theorem dX11_manLine_158 : decode cX11_manLine 158 = .ok (.getfield 121, 3) := by decide +kernel
theorem dX11_manLine_161 : decode cX11_manLine 161 = .ok (.ifCond .eq 4, 3) := by decide +kernel
theorem dX11_manLine_164 : decode cX11_manLine 164 = .ok (.return_, 1) := by decide +kernel
theorem dX11_manLine_165 : decode cX11_manLine 165 = .ok (.aload_n 0, 1) := by decide +kernel
theorem dX11_manLine_166 : decode cX11_manLine 166 = .ok (.getfield 23, 3) := by decide +kernel
theorem dX11_manLine_169 : decode cX11_manLine 169 = .ok (.iload_n 1, 1) := by decide +kernel
theorem dX11_manLine_170 : decode cX11_manLine 170 = .ok (.iload_n 2, 1) := by decide +kernel
theorem dX11_manLine_171 : decode cX11_manLine 171 = .ok (.iastore, 1) := by decide +kernel
theorem dX11_manLine_172 : decode cX11_manLine 172 = .ok (.aload_n 0, 1) := by decide +kernel
theorem dX11_manLine_173 : decode cX11_manLine 173 = .ok (.getfield 23, 3) := by decide +kernel
theorem dX11_manLine_176 : decode cX11_manLine 176 = .ok (.iload_n 1, 1) := by decide +kernel
theorem dX11_manLine_177 : decode cX11_manLine 177 = .ok (.iconst 1, 1) := by decide +kernel
theorem dX11_manLine_178 : decode cX11_manLine 178 = .ok (.iadd, 1) := by decide +kernel
theorem dX11_manLine_179 : decode cX11_manLine 179 = .ok (.iload_n 3, 1) := by decide +kernel
theorem dX11_manLine_180 : decode cX11_manLine 180 = .ok (.iastore, 1) := by decide +kernel
theorem dX11_manLine_181 : decode cX11_manLine 181 = .ok (.aload_n 0, 1) := by decide +kernel
theorem dX11_manLine_182 : decode cX11_manLine 182 = .ok (.getfield 23, 3) := by decide +kernel
theorem dX11_manLine_185 : decode cX11_manLine 185 = .ok (.iload_n 1, 1) := by decide +kernel
theorem dX11_manLine_186 : decode cX11_manLine 186 = .ok (.iconst 2, 1) := by decide +kernel
theorem dX11_manLine_187 : decode cX11_manLine 187 = .ok (.iadd, 1) := by decide +kernel
theorem dX11_manLine_188 : decode cX11_manLine 188 = .ok (.iload 4, 2) := by decide +kernel
theorem dX11_manLine_190 : decode cX11_manLine 190 = .ok (.iastore, 1) := by decide +kernel
theorem dX11_manLine_191 : decode cX11_manLine 191 = .ok (.aload_n 0, 1) := by decide +kernel
theorem dX11_manLine_192 : decode cX11_manLine 192 = .ok (.getfield 23, 3) := by decide +kernel
theorem dX11_manLine_195 : decode cX11_manLine 195 = .ok (.bipush 11, 2) := by decide +kernel
theorem dX11_manLine_197 : decode cX11_manLine 197 = .ok (.dup2, 1) := by decide +kernel
theorem dX11_manLine_198 : decode cX11_manLine 198 = .ok (.iaload, 1) := by decide +kernel
theorem dX11_manLine_199 : decode cX11_manLine 199 = .ok (.iconst 1, 1) := by decide +kernel
theorem dX11_manLine_200 : decode cX11_manLine 200 = .ok (.iadd, 1) := by decide +kernel
theorem dX11_manLine_201 : decode cX11_manLine 201 = .ok (.iastore, 1) := by decide +kernel
theorem dX11_manLine_202 : decode cX11_manLine 202 = .ok (.return_, 1) := by decide +kernel
set_option maxHeartbeats 4000000 in
set_option maxRecDepth 100000 in
theorem m_manLine (l : Launch) (g : Gx) (h0 : Nat) (m_thrown : Int32) (a_tape : Nat) (m_taped : Int32) (m_size : Int32) (m_at : Int32) (m_end : Int32) (m_token : Int32) (m_whole : Int32) (m_nameSize : Int32) (m_fault : Int32) (m_place : Int32) (m_trouble : Int32) (a_letters : Nat) (m_failed : Int32) (m_hasHouse : Int32) (a_r : Nat) (a_fresh : Nat) (a_st : Nat) (a_undone : Nat) (a_kept : Nat) (m_undos : Int32) (m_images : Int32) (a_from : Nat) (a_begin : Nat) (a_motor : Nat) (a_change : Nat) (a_startFrame : Nat) (a_changeFrame : Nat) (a_lostAt : Nat) (a_blackAt : Nat) (a_slips : Nat) (a_leftArc : Nat) (a_died : Nat) (a_arcs : Nat) (m_bestSum : Int32) (m_nearest : Int32) (m_nearestTown : Int32) (a_there : Nat) (a_backAt : Nat) (a_sorted : Nat) (a_parts : Nat) (m_seed1 : Int32) (m_darkNow : Int32) (d_tape : Nat → Int32) (d_letters : Nat → Int32) (d_fresh : Nat → Int32) (hv_m_size : IV m_size 0 900) (hv_m_end : IV m_end 0 900) (hv_m_nameSize : IV m_nameSize 0 900) (hv_m_failed : IV m_failed 0 1) (hp_d_fresh : RInv d_fresh) (hr_0 : TRI d_fresh) (hc_0 : m_failed = 1 ∨ ((d_fresh 11).toInt ≤ 3)) (hc_1 : m_token = 2 → IV m_nameSize 0 8) : cV l g yX11_manLine cX11_manLine 5 8 173 0 0 [.ref h0] [(h0, .inr (11, [.int m_thrown, .ref a_tape, .int m_taped, .int m_size, .int m_at, .int m_end, .int m_token, .int m_whole, .int m_nameSize, .int m_fault, .int m_place, .int m_trouble, .ref a_letters, .int m_failed, .int m_hasHouse, .ref a_r, .ref a_fresh, .ref a_st, .ref a_undone, .ref a_kept, .int m_undos, .int m_images, .ref a_from, .ref a_begin, .ref a_motor, .ref a_change, .ref a_startFrame, .ref a_changeFrame, .ref a_lostAt, .ref a_blackAt, .ref a_slips, .ref a_leftArc, .ref a_died, .ref a_arcs, .int m_bestSum, .int m_nearest, .int m_nearestTown, .ref a_there, .ref a_backAt, .ref a_sorted, .ref a_parts, .int m_seed1, .int m_darkNow])), (a_tape, .inl (g.2.2.1, 900, .inl d_tape)), (a_letters, .inl (g.2.2.1, 8, .inl d_letters)), (a_fresh, .inl (g.2.2.1, 311, .inl d_fresh))] (fun w => ∃ (m_at2 : Int32) (m_end2 : Int32) (m_failed2 : Int32) (m_fault2 : Int32) (d_fresh2 : Nat → Int32) (d_letters2 : Nat → Int32) (m_nameSize2 : Int32) (m_place2 : Int32) (m_token2 : Int32) (m_whole2 : Int32), IV m_end2 0 900 ∧ IV m_failed2 0 1 ∧ IV m_nameSize2 0 900 ∧ RInv d_fresh2 ∧ (m_end.toInt ≤ m_end2.toInt) ∧ (TRI d_fresh2) ∧ (m_token2 = 2 → IV m_nameSize2 0 8) ∧ w = [(h0, .inr (11, [.int m_thrown, .ref a_tape, .int m_taped, .int m_size, .int m_at2, .int m_end2, .int m_token2, .int m_whole2, .int m_nameSize2, .int m_fault2, .int m_place2, .int m_trouble, .ref a_letters, .int m_failed2, .int m_hasHouse, .ref a_r, .ref a_fresh, .ref a_st, .ref a_undone, .ref a_kept, .int m_undos, .int m_images, .ref a_from, .ref a_begin, .ref a_motor, .ref a_change, .ref a_startFrame, .ref a_changeFrame, .ref a_lostAt, .ref a_blackAt, .ref a_slips, .ref a_leftArc, .ref a_died, .ref a_arcs, .int m_bestSum, .int m_nearest, .int m_nearestTown, .ref a_there, .ref a_backAt, .ref a_sorted, .ref a_parts, .int m_seed1, .int m_darkNow])), (a_tape, .inl (g.2.2.1, 900, .inl d_tape)), (a_letters, .inl (g.2.2.1, 8, .inl d_letters2)), (a_fresh, .inl (g.2.2.1, 311, .inl d_fresh2))]) := by
  refine cV.of (by decide) (Nat.le_of_ble_eq_true rfl) ?_
  intro p e s m args below meth c A X hr hi
  refine k_lveq [(0, .ref h0)] rfl ?_
  refine k_aload_n X dX11_manLine_0 0 rfl ?_
  refine k_get (ci := 11) X inlX11 rfl 13 (by decide) dX11_manLine_1 mw469 0 rfl rfl ?_
  refine k_if_eq 8 X dX11_manLine_4 (by decide) (fun h_1 => ?_) (fun h_1 => ?_)
  · skip
    have iv_2 : IV m_failed 0 0 := iv_meet hv_m_failed (iv_e h_1 (show IV 0 0 0 from (by decide))) (by decide) (by decide)
    have hc_3 := hc_0.resolve_left (fun q => iv_eqN q iv_2 (show IV 1 1 1 from (by decide)) (by decide))
    have j_4 : (d_fresh 11).toInt ≤ 3 := hc_3
    refine k_bipush (v := 114) X dX11_manLine_8 (by decide) ?_
    refine k_iconst (v := 3) X dX11_manLine_10 (by decide) ?_
    refine k_aload_n X dX11_manLine_11 0 rfl ?_
    refine k_get (ci := 11) X inlX11 rfl 16 (by decide) dX11_manLine_12 mw171 0 rfl rfl ?_
    refine k_bipush (v := 11) X dX11_manLine_15 (by decide) ?_
    refine k_iald X dX11_manLine_17 3 rfl (by unfold vp_in; decide) ?_
    refine k_nm (fun z_5 ez_5 => ?_)
    have i_6 : z_5.toInt = (d_fresh 11).toInt := by rw [ez_5]; rfl
    have iv_7 : IV z_5 0 3 := by have := rb_11 ez_5 hp_d_fresh; rw [IV]; omega
    refine k_imul X dX11_manLine_18 ?_
    refine k_nm (fun z_8 ez_8 => ?_)
    have i_9 : z_8.toInt = 3 * z_5.toInt := in_mul ez_8 (by decide) (by decide) iv_7 (by decide) (by decide)
    have iv_10 : IV z_8 0 9 := by have := (show IV 3 3 3 from (by decide)); have := iv_7; rw [IV, i_9]; omega
    refine k_iadd X dX11_manLine_19 ?_
    refine k_nm (fun z_11 ez_11 => ?_)
    have i_12 : z_11.toInt = 114 + z_8.toInt := in_add ez_11 (show IV 114 114 114 from (by decide)) iv_10 (by decide) (by decide)
    have iv_13 : IV z_11 114 123 := by have := (show IV 114 114 114 from (by decide)); have := iv_10; rw [IV, i_12]; omega
    refine k_istore_n [(1, .int z_11), (0, .ref h0)] X dX11_manLine_20 (by decide) rfl ?_
    refine k_aload_n X dX11_manLine_21 1 rfl ?_
    refine k_bipush (v := 12) X dX11_manLine_22 (by decide) ?_
    refine k_aload_n X dX11_manLine_24 1 rfl ?_
    refine k_get (ci := 11) X inlX11 rfl 16 (by decide) dX11_manLine_25 mw171 0 rfl rfl ?_
    refine k_bipush (v := 11) X dX11_manLine_28 (by decide) ?_
    refine k_iald X dX11_manLine_30 3 rfl (by unfold vp_in; decide) ?_
    refine k_to z_5 ez_5.symm ?_
    refine k_iadd X dX11_manLine_31 ?_
    refine k_nm (fun z_14 ez_14 => ?_)
    have i_15 : z_14.toInt = 12 + z_5.toInt := in_add ez_14 (show IV 12 12 12 from (by decide)) iv_7 (by decide) (by decide)
    have iv_16 : IV z_14 12 15 := by have := (show IV 12 12 12 from (by decide)); have := iv_7; rw [IV, i_15]; omega
    refine k_callVV (n := 1) (As := [.int z_14]) (st := []) X [(h0, .inr (11, [.int m_thrown, .ref a_tape, .int m_taped, .int m_size, .int m_at, .int m_end, .int m_token, .int m_whole, .int m_nameSize, .int m_fault, .int m_place, .int m_trouble, .ref a_letters, .int m_failed, .int m_hasHouse, .ref a_r, .ref a_fresh, .ref a_st, .ref a_undone, .ref a_kept, .int m_undos, .int m_images, .ref a_from, .ref a_begin, .ref a_motor, .ref a_change, .ref a_startFrame, .ref a_changeFrame, .ref a_lostAt, .ref a_blackAt, .ref a_slips, .ref a_leftArc, .ref a_died, .ref a_arcs, .int m_bestSum, .int m_nearest, .int m_nearestTown, .ref a_there, .ref a_backAt, .ref a_sorted, .ref a_parts, .int m_seed1, .int m_darkNow])), (a_tape, .inl (g.2.2.1, 900, .inl d_tape)), (a_letters, .inl (g.2.2.1, 8, .inl d_letters)), (a_fresh, .inl (g.2.2.1, 311, .inl d_fresh))] [] [0, 1, 2, 3] [] (m_newName l g h0 z_14 m_thrown a_tape m_taped m_size m_at m_end m_token m_whole m_nameSize m_fault m_place m_trouble a_letters m_failed m_hasHouse a_r a_fresh a_st a_undone a_kept m_undos m_images a_from a_begin a_motor a_change a_startFrame a_changeFrame a_lostAt a_blackAt a_slips a_leftArc a_died a_arcs m_bestSum m_nearest m_nearestTown a_there a_backAt a_sorted a_parts m_seed1 m_darkNow d_tape d_letters d_fresh (iv_w iv_16 (by decide) (by decide)) (iv_w hv_m_size (by decide) (by decide)) (iv_w hv_m_end (by decide) (by decide)) (iv_w hv_m_nameSize (by decide) (by decide)) (iv_w iv_2 (by decide) (by decide)) hp_d_fresh hc_1) dX11_manLine_32 mw551 mw552 mw553 mw5 mw554 rfl 11 rfl rfl 0 _ rfl (by unfold yOk; decide) rfl (Nat.le_of_ble_eq_true rfl) (Nat.le_of_ble_eq_true rfl) (Nat.le_of_ble_eq_true rfl) (Nat.le_of_ble_eq_true rfl) (Nat.le_of_ble_eq_true rfl) rfl rfl (by decide) rfl (by decide) (by decide) ?_
    rintro w ⟨m_at2_17, m_end2_18, m_failed2_19, m_fault2_20, d_fresh2_21, d_letters2_22, m_nameSize2_23, m_place2_24, m_token2_25, m_whole2_26, iv_28, iv_29, iv_30, hp_31, hq_32, hq_33, hk_34, rfl⟩
    refine k_ws [(h0, .inr (11, [.int m_thrown, .ref a_tape, .int m_taped, .int m_size, .int m_at2_17, .int m_end2_18, .int m_token2_25, .int m_whole2_26, .int m_nameSize2_23, .int m_fault2_20, .int m_place2_24, .int m_trouble, .ref a_letters, .int m_failed2_19, .int m_hasHouse, .ref a_r, .ref a_fresh, .ref a_st, .ref a_undone, .ref a_kept, .int m_undos, .int m_images, .ref a_from, .ref a_begin, .ref a_motor, .ref a_change, .ref a_startFrame, .ref a_changeFrame, .ref a_lostAt, .ref a_blackAt, .ref a_slips, .ref a_leftArc, .ref a_died, .ref a_arcs, .int m_bestSum, .int m_nearest, .int m_nearestTown, .ref a_there, .ref a_backAt, .ref a_sorted, .ref a_parts, .int m_seed1, .int m_darkNow])), (a_tape, .inl (g.2.2.1, 900, .inl d_tape)), (a_letters, .inl (g.2.2.1, 8, .inl d_letters2_22)), (a_fresh, .inl (g.2.2.1, 311, .inl d_fresh2_21))] rfl ?_
    have hk_35 : K16 d_fresh d_fresh2_21 := KN.k16 hq_32 (by have := iv_16; omega)
    have ek_36 : z_5 = d_fresh2_21 (11 : Int32).toNatClampNeg := ez_5.trans (hk_35 _ (by decide)).symm
    have hT_37 : TRI d_fresh2_21 := tri_kn hr_0 hp_d_fresh hq_32 (by have := iv_16; omega) (by have := iv_16; omega)
    refine k_aload_n X dX11_manLine_35 1 rfl ?_
    refine k_ldcwS (tx := "clean") X dX11_manLine_36 (by decide +kernel) (fun sr_38 hsr_38 => ?_)
    refine k_callVI (n := 1) (As := [.ref sr_38]) (st := []) X [(h0, .inr (11, [.int m_thrown, .ref a_tape, .int m_taped, .int m_size, .int m_at2_17, .int m_end2_18, .int m_token2_25, .int m_whole2_26, .int m_nameSize2_23, .int m_fault2_20, .int m_place2_24, .int m_trouble, .ref a_letters, .int m_failed2_19, .int m_hasHouse, .ref a_r, .ref a_fresh, .ref a_st, .ref a_undone, .ref a_kept, .int m_undos, .int m_images, .ref a_from, .ref a_begin, .ref a_motor, .ref a_change, .ref a_startFrame, .ref a_changeFrame, .ref a_lostAt, .ref a_blackAt, .ref a_slips, .ref a_leftArc, .ref a_died, .ref a_arcs, .int m_bestSum, .int m_nearest, .int m_nearestTown, .ref a_there, .ref a_backAt, .ref a_sorted, .ref a_parts, .int m_seed1, .int m_darkNow])), (a_letters, .inl (g.2.2.1, 8, .inl d_letters2_22))] [(a_tape, .inl (g.2.2.1, 900, .inl d_tape)), (a_fresh, .inl (g.2.2.1, 311, .inl d_fresh2_21))] [0, 2] [1, 3] (m_isWord l g h0 sr_38 m_thrown a_tape m_taped m_size m_at2_17 m_end2_18 m_token2_25 m_whole2_26 m_nameSize2_23 m_fault2_20 m_place2_24 m_trouble a_letters m_failed2_19 m_hasHouse a_r a_fresh a_st a_undone a_kept m_undos m_images a_from a_begin a_motor a_change a_startFrame a_changeFrame a_lostAt a_blackAt a_slips a_leftArc a_died a_arcs m_bestSum m_nearest m_nearestTown a_there a_backAt a_sorted a_parts m_seed1 m_darkNow d_letters2_22 ("clean") (iv_w iv_30 (by decide) (by decide)) (iv_w iv_29 (by decide) (by decide)) hsr_38 hk_34) dX11_manLine_39 mw509 mw510 mw511 mw5 mw512 rfl 11 rfl rfl 0 _ rfl (by unfold yOk; decide) rfl (Nat.le_of_ble_eq_true rfl) (Nat.le_of_ble_eq_true rfl) (Nat.le_of_ble_eq_true rfl) (Nat.le_of_ble_eq_true rfl) (Nat.le_of_ble_eq_true rfl) rfl rfl (by decide) rfl (by decide) (by decide) ?_
    rintro r_39 w ⟨iv_40, hk_41, rfl⟩
    refine k_ws [(a_tape, .inl (g.2.2.1, 900, .inl d_tape)), (a_fresh, .inl (g.2.2.1, 311, .inl d_fresh2_21)), (h0, .inr (11, [.int m_thrown, .ref a_tape, .int m_taped, .int m_size, .int m_at2_17, .int m_end2_18, .int m_token2_25, .int m_whole2_26, .int m_nameSize2_23, .int m_fault2_20, .int m_place2_24, .int m_trouble, .ref a_letters, .int m_failed2_19, .int m_hasHouse, .ref a_r, .ref a_fresh, .ref a_st, .ref a_undone, .ref a_kept, .int m_undos, .int m_images, .ref a_from, .ref a_begin, .ref a_motor, .ref a_change, .ref a_startFrame, .ref a_changeFrame, .ref a_lostAt, .ref a_blackAt, .ref a_slips, .ref a_leftArc, .ref a_died, .ref a_arcs, .int m_bestSum, .int m_nearest, .int m_nearestTown, .ref a_there, .ref a_backAt, .ref a_sorted, .ref a_parts, .int m_seed1, .int m_darkNow])), (a_letters, .inl (g.2.2.1, 8, .inl d_letters2_22))] rfl ?_
    refine k_if_eq 49 X dX11_manLine_42 (by decide) (fun h_42 => ?_) (fun h_42 => ?_)
    · skip
      have iv_43 : IV r_39 0 0 := iv_meet iv_40 (iv_e h_42 (show IV 0 0 0 from (by decide))) (by decide) (by decide)
      refine k_aload_n X dX11_manLine_49 1 rfl ?_
      refine k_ldcwS (tx := "early") X dX11_manLine_50 (by decide +kernel) (fun sr_44 hsr_44 => ?_)
      refine k_callVI (n := 1) (As := [.ref sr_44]) (st := []) X [(h0, .inr (11, [.int m_thrown, .ref a_tape, .int m_taped, .int m_size, .int m_at2_17, .int m_end2_18, .int m_token2_25, .int m_whole2_26, .int m_nameSize2_23, .int m_fault2_20, .int m_place2_24, .int m_trouble, .ref a_letters, .int m_failed2_19, .int m_hasHouse, .ref a_r, .ref a_fresh, .ref a_st, .ref a_undone, .ref a_kept, .int m_undos, .int m_images, .ref a_from, .ref a_begin, .ref a_motor, .ref a_change, .ref a_startFrame, .ref a_changeFrame, .ref a_lostAt, .ref a_blackAt, .ref a_slips, .ref a_leftArc, .ref a_died, .ref a_arcs, .int m_bestSum, .int m_nearest, .int m_nearestTown, .ref a_there, .ref a_backAt, .ref a_sorted, .ref a_parts, .int m_seed1, .int m_darkNow])), (a_letters, .inl (g.2.2.1, 8, .inl d_letters2_22))] [(a_tape, .inl (g.2.2.1, 900, .inl d_tape)), (a_fresh, .inl (g.2.2.1, 311, .inl d_fresh2_21))] [2, 3] [0, 1] (m_isWord l g h0 sr_44 m_thrown a_tape m_taped m_size m_at2_17 m_end2_18 m_token2_25 m_whole2_26 m_nameSize2_23 m_fault2_20 m_place2_24 m_trouble a_letters m_failed2_19 m_hasHouse a_r a_fresh a_st a_undone a_kept m_undos m_images a_from a_begin a_motor a_change a_startFrame a_changeFrame a_lostAt a_blackAt a_slips a_leftArc a_died a_arcs m_bestSum m_nearest m_nearestTown a_there a_backAt a_sorted a_parts m_seed1 m_darkNow d_letters2_22 ("early") (iv_w iv_30 (by decide) (by decide)) (iv_w iv_29 (by decide) (by decide)) hsr_44 hk_34) dX11_manLine_53 mw509 mw510 mw511 mw5 mw512 rfl 11 rfl rfl 0 _ rfl (by unfold yOk; decide) rfl (Nat.le_of_ble_eq_true rfl) (Nat.le_of_ble_eq_true rfl) (Nat.le_of_ble_eq_true rfl) (Nat.le_of_ble_eq_true rfl) (Nat.le_of_ble_eq_true rfl) rfl rfl (by decide) rfl (by decide) (by decide) ?_
      rintro r_45 w ⟨iv_46, hk_47, rfl⟩
      refine k_ws [(a_tape, .inl (g.2.2.1, 900, .inl d_tape)), (a_fresh, .inl (g.2.2.1, 311, .inl d_fresh2_21)), (h0, .inr (11, [.int m_thrown, .ref a_tape, .int m_taped, .int m_size, .int m_at2_17, .int m_end2_18, .int m_token2_25, .int m_whole2_26, .int m_nameSize2_23, .int m_fault2_20, .int m_place2_24, .int m_trouble, .ref a_letters, .int m_failed2_19, .int m_hasHouse, .ref a_r, .ref a_fresh, .ref a_st, .ref a_undone, .ref a_kept, .int m_undos, .int m_images, .ref a_from, .ref a_begin, .ref a_motor, .ref a_change, .ref a_startFrame, .ref a_changeFrame, .ref a_lostAt, .ref a_blackAt, .ref a_slips, .ref a_leftArc, .ref a_died, .ref a_arcs, .int m_bestSum, .int m_nearest, .int m_nearestTown, .ref a_there, .ref a_backAt, .ref a_sorted, .ref a_parts, .int m_seed1, .int m_darkNow])), (a_letters, .inl (g.2.2.1, 8, .inl d_letters2_22))] rfl ?_
      refine k_if_eq 63 X dX11_manLine_56 (by decide) (fun h_48 => ?_) (fun h_48 => ?_)
      · skip
        have iv_49 : IV r_45 0 0 := iv_meet iv_46 (iv_e h_48 (show IV 0 0 0 from (by decide))) (by decide) (by decide)
        refine k_aload_n X dX11_manLine_63 1 rfl ?_
        refine k_ldcwS (tx := "late") X dX11_manLine_64 (by decide +kernel) (fun sr_50 hsr_50 => ?_)
        refine k_callVI (n := 1) (As := [.ref sr_50]) (st := []) X [(h0, .inr (11, [.int m_thrown, .ref a_tape, .int m_taped, .int m_size, .int m_at2_17, .int m_end2_18, .int m_token2_25, .int m_whole2_26, .int m_nameSize2_23, .int m_fault2_20, .int m_place2_24, .int m_trouble, .ref a_letters, .int m_failed2_19, .int m_hasHouse, .ref a_r, .ref a_fresh, .ref a_st, .ref a_undone, .ref a_kept, .int m_undos, .int m_images, .ref a_from, .ref a_begin, .ref a_motor, .ref a_change, .ref a_startFrame, .ref a_changeFrame, .ref a_lostAt, .ref a_blackAt, .ref a_slips, .ref a_leftArc, .ref a_died, .ref a_arcs, .int m_bestSum, .int m_nearest, .int m_nearestTown, .ref a_there, .ref a_backAt, .ref a_sorted, .ref a_parts, .int m_seed1, .int m_darkNow])), (a_letters, .inl (g.2.2.1, 8, .inl d_letters2_22))] [(a_tape, .inl (g.2.2.1, 900, .inl d_tape)), (a_fresh, .inl (g.2.2.1, 311, .inl d_fresh2_21))] [2, 3] [0, 1] (m_isWord l g h0 sr_50 m_thrown a_tape m_taped m_size m_at2_17 m_end2_18 m_token2_25 m_whole2_26 m_nameSize2_23 m_fault2_20 m_place2_24 m_trouble a_letters m_failed2_19 m_hasHouse a_r a_fresh a_st a_undone a_kept m_undos m_images a_from a_begin a_motor a_change a_startFrame a_changeFrame a_lostAt a_blackAt a_slips a_leftArc a_died a_arcs m_bestSum m_nearest m_nearestTown a_there a_backAt a_sorted a_parts m_seed1 m_darkNow d_letters2_22 ("late") (iv_w iv_30 (by decide) (by decide)) (iv_w iv_29 (by decide) (by decide)) hsr_50 hk_34) dX11_manLine_67 mw509 mw510 mw511 mw5 mw512 rfl 11 rfl rfl 0 _ rfl (by unfold yOk; decide) rfl (Nat.le_of_ble_eq_true rfl) (Nat.le_of_ble_eq_true rfl) (Nat.le_of_ble_eq_true rfl) (Nat.le_of_ble_eq_true rfl) (Nat.le_of_ble_eq_true rfl) rfl rfl (by decide) rfl (by decide) (by decide) ?_
        rintro r_51 w ⟨iv_52, hk_53, rfl⟩
        refine k_ws [(a_tape, .inl (g.2.2.1, 900, .inl d_tape)), (a_fresh, .inl (g.2.2.1, 311, .inl d_fresh2_21)), (h0, .inr (11, [.int m_thrown, .ref a_tape, .int m_taped, .int m_size, .int m_at2_17, .int m_end2_18, .int m_token2_25, .int m_whole2_26, .int m_nameSize2_23, .int m_fault2_20, .int m_place2_24, .int m_trouble, .ref a_letters, .int m_failed2_19, .int m_hasHouse, .ref a_r, .ref a_fresh, .ref a_st, .ref a_undone, .ref a_kept, .int m_undos, .int m_images, .ref a_from, .ref a_begin, .ref a_motor, .ref a_change, .ref a_startFrame, .ref a_changeFrame, .ref a_lostAt, .ref a_blackAt, .ref a_slips, .ref a_leftArc, .ref a_died, .ref a_arcs, .int m_bestSum, .int m_nearest, .int m_nearestTown, .ref a_there, .ref a_backAt, .ref a_sorted, .ref a_parts, .int m_seed1, .int m_darkNow])), (a_letters, .inl (g.2.2.1, 8, .inl d_letters2_22))] rfl ?_
        refine k_if_eq 77 X dX11_manLine_70 (by decide) (fun h_54 => ?_) (fun h_54 => ?_)
        · skip
          have iv_55 : IV r_51 0 0 := iv_meet iv_52 (iv_e h_54 (show IV 0 0 0 from (by decide))) (by decide) (by decide)
          refine k_aload_n X dX11_manLine_77 1 rfl ?_
          refine k_ldcwS (tx := "misled") X dX11_manLine_78 (by decide +kernel) (fun sr_56 hsr_56 => ?_)
          refine k_callVI (n := 1) (As := [.ref sr_56]) (st := []) X [(h0, .inr (11, [.int m_thrown, .ref a_tape, .int m_taped, .int m_size, .int m_at2_17, .int m_end2_18, .int m_token2_25, .int m_whole2_26, .int m_nameSize2_23, .int m_fault2_20, .int m_place2_24, .int m_trouble, .ref a_letters, .int m_failed2_19, .int m_hasHouse, .ref a_r, .ref a_fresh, .ref a_st, .ref a_undone, .ref a_kept, .int m_undos, .int m_images, .ref a_from, .ref a_begin, .ref a_motor, .ref a_change, .ref a_startFrame, .ref a_changeFrame, .ref a_lostAt, .ref a_blackAt, .ref a_slips, .ref a_leftArc, .ref a_died, .ref a_arcs, .int m_bestSum, .int m_nearest, .int m_nearestTown, .ref a_there, .ref a_backAt, .ref a_sorted, .ref a_parts, .int m_seed1, .int m_darkNow])), (a_letters, .inl (g.2.2.1, 8, .inl d_letters2_22))] [(a_tape, .inl (g.2.2.1, 900, .inl d_tape)), (a_fresh, .inl (g.2.2.1, 311, .inl d_fresh2_21))] [2, 3] [0, 1] (m_isWord l g h0 sr_56 m_thrown a_tape m_taped m_size m_at2_17 m_end2_18 m_token2_25 m_whole2_26 m_nameSize2_23 m_fault2_20 m_place2_24 m_trouble a_letters m_failed2_19 m_hasHouse a_r a_fresh a_st a_undone a_kept m_undos m_images a_from a_begin a_motor a_change a_startFrame a_changeFrame a_lostAt a_blackAt a_slips a_leftArc a_died a_arcs m_bestSum m_nearest m_nearestTown a_there a_backAt a_sorted a_parts m_seed1 m_darkNow d_letters2_22 ("misled") (iv_w iv_30 (by decide) (by decide)) (iv_w iv_29 (by decide) (by decide)) hsr_56 hk_34) dX11_manLine_81 mw509 mw510 mw511 mw5 mw512 rfl 11 rfl rfl 0 _ rfl (by unfold yOk; decide) rfl (Nat.le_of_ble_eq_true rfl) (Nat.le_of_ble_eq_true rfl) (Nat.le_of_ble_eq_true rfl) (Nat.le_of_ble_eq_true rfl) (Nat.le_of_ble_eq_true rfl) rfl rfl (by decide) rfl (by decide) (by decide) ?_
          rintro r_57 w ⟨iv_58, hk_59, rfl⟩
          refine k_ws [(a_tape, .inl (g.2.2.1, 900, .inl d_tape)), (a_fresh, .inl (g.2.2.1, 311, .inl d_fresh2_21)), (h0, .inr (11, [.int m_thrown, .ref a_tape, .int m_taped, .int m_size, .int m_at2_17, .int m_end2_18, .int m_token2_25, .int m_whole2_26, .int m_nameSize2_23, .int m_fault2_20, .int m_place2_24, .int m_trouble, .ref a_letters, .int m_failed2_19, .int m_hasHouse, .ref a_r, .ref a_fresh, .ref a_st, .ref a_undone, .ref a_kept, .int m_undos, .int m_images, .ref a_from, .ref a_begin, .ref a_motor, .ref a_change, .ref a_startFrame, .ref a_changeFrame, .ref a_lostAt, .ref a_blackAt, .ref a_slips, .ref a_leftArc, .ref a_died, .ref a_arcs, .int m_bestSum, .int m_nearest, .int m_nearestTown, .ref a_there, .ref a_backAt, .ref a_sorted, .ref a_parts, .int m_seed1, .int m_darkNow])), (a_letters, .inl (g.2.2.1, 8, .inl d_letters2_22))] rfl ?_
          refine k_if_eq 91 X dX11_manLine_84 (by decide) (fun h_60 => ?_) (fun h_60 => ?_)
          · skip
            have iv_61 : IV r_57 0 0 := iv_meet iv_58 (iv_e h_60 (show IV 0 0 0 from (by decide))) (by decide) (by decide)
            refine k_iconst (v := -1) X dX11_manLine_91 (by decide) ?_
            refine k_istore_n [(2, .int (-1)), (1, .int z_11), (0, .ref h0)] X dX11_manLine_92 (by decide) rfl ?_
            refine k_iload_n X dX11_manLine_93 0 rfl ?_
            refine k_if_ge 106 X dX11_manLine_94 (by decide) (fun h_62 => absurd h_62 (by decide)) (fun _ => ?_)
            refine k_aload_n X dX11_manLine_97 2 rfl ?_
            refine k_iconst (v := 1) X dX11_manLine_98 (by decide) ?_
            refine k_aload_n X dX11_manLine_99 2 rfl ?_
            refine k_get (ci := 11) X inlX11 rfl 4 (by decide) dX11_manLine_100 mw473 2 rfl rfl ?_
            refine k_callVV (n := 2) (As := [.int 1, .int m_at2_17]) (st := []) X [(h0, .inr (11, [.int m_thrown, .ref a_tape, .int m_taped, .int m_size, .int m_at2_17, .int m_end2_18, .int m_token2_25, .int m_whole2_26, .int m_nameSize2_23, .int m_fault2_20, .int m_place2_24, .int m_trouble, .ref a_letters, .int m_failed2_19, .int m_hasHouse, .ref a_r, .ref a_fresh, .ref a_st, .ref a_undone, .ref a_kept, .int m_undos, .int m_images, .ref a_from, .ref a_begin, .ref a_motor, .ref a_change, .ref a_startFrame, .ref a_changeFrame, .ref a_lostAt, .ref a_blackAt, .ref a_slips, .ref a_leftArc, .ref a_died, .ref a_arcs, .int m_bestSum, .int m_nearest, .int m_nearestTown, .ref a_there, .ref a_backAt, .ref a_sorted, .ref a_parts, .int m_seed1, .int m_darkNow]))] [(a_tape, .inl (g.2.2.1, 900, .inl d_tape)), (a_fresh, .inl (g.2.2.1, 311, .inl d_fresh2_21)), (a_letters, .inl (g.2.2.1, 8, .inl d_letters2_22))] [2] [0, 1, 3] (m_bad l g h0 1 m_at2_17 m_thrown a_tape m_taped m_size m_at2_17 m_end2_18 m_token2_25 m_whole2_26 m_nameSize2_23 m_fault2_20 m_place2_24 m_trouble a_letters m_failed2_19 m_hasHouse a_r a_fresh a_st a_undone a_kept m_undos m_images a_from a_begin a_motor a_change a_startFrame a_changeFrame a_lostAt a_blackAt a_slips a_leftArc a_died a_arcs m_bestSum m_nearest m_nearestTown a_there a_backAt a_sorted a_parts m_seed1 m_darkNow (iv_w iv_29 (by decide) (by decide))) dX11_manLine_103 mw519 mw520 mw521 mw5 mw522 rfl 11 rfl rfl 0 _ rfl (by unfold yOk; decide) rfl (Nat.le_of_ble_eq_true rfl) (Nat.le_of_ble_eq_true rfl) (Nat.le_of_ble_eq_true rfl) (Nat.le_of_ble_eq_true rfl) (Nat.le_of_ble_eq_true rfl) rfl rfl (by decide) rfl (by decide) (by decide) ?_
            rintro w ⟨m_failed2_63, m_fault2_64, m_place2_65, iv_67, rfl⟩
            refine k_ws [(a_tape, .inl (g.2.2.1, 900, .inl d_tape)), (a_fresh, .inl (g.2.2.1, 311, .inl d_fresh2_21)), (a_letters, .inl (g.2.2.1, 8, .inl d_letters2_22)), (h0, .inr (11, [.int m_thrown, .ref a_tape, .int m_taped, .int m_size, .int m_at2_17, .int m_end2_18, .int m_token2_25, .int m_whole2_26, .int m_nameSize2_23, .int m_fault2_64, .int m_place2_65, .int m_trouble, .ref a_letters, .int m_failed2_63, .int m_hasHouse, .ref a_r, .ref a_fresh, .ref a_st, .ref a_undone, .ref a_kept, .int m_undos, .int m_images, .ref a_from, .ref a_begin, .ref a_motor, .ref a_change, .ref a_startFrame, .ref a_changeFrame, .ref a_lostAt, .ref a_blackAt, .ref a_slips, .ref a_leftArc, .ref a_died, .ref a_arcs, .int m_bestSum, .int m_nearest, .int m_nearestTown, .ref a_there, .ref a_backAt, .ref a_sorted, .ref a_parts, .int m_seed1, .int m_darkNow]))] rfl ?_
            refine k_aload_n X dX11_manLine_106 2 rfl ?_
            refine k_get (ci := 11) X inlX11 rfl 13 (by decide) dX11_manLine_107 mw469 3 rfl rfl ?_
            refine k_if_eq 114 X dX11_manLine_110 (by decide) (fun h_68 => (iv_eqN h_68 iv_67 (show IV 0 0 0 from (by decide)) (by decide)).elim) (fun h_68 => ?_)
            exact k_vret X hr dX11_manLine_113 (Nat.le_of_ble_eq_true rfl) (Nat.le_of_ble_eq_true rfl) [3, 0, 2, 1] (by decide) rfl rfl ⟨m_at2_17, m_end2_18, m_failed2_63, m_fault2_64, d_fresh2_21, d_letters2_22, m_nameSize2_23, m_place2_65, m_token2_25, m_whole2_26, (iv_w iv_28 (by decide) (by decide)), (iv_w iv_67 (by decide) (by decide)), (iv_w iv_30 (by decide) (by decide)), hp_31, (by omega), hT_37, hk_34, rfl⟩
          · skip
            have hc_69 := hk_59.resolve_left h_60
            have iv_70 : IV m_token2_25 2 2 := iv_meet (iv_any m_token2_25) hc_69.1 (by decide) (by decide)
            have hc_71 := hk_34 (iv_eq iv_70 (show IV 2 2 2 from (by decide)))
            have iv_72 : IV m_nameSize2_23 0 8 := iv_meet iv_30 hc_71 (by decide) (by decide)
            have iv_73 : IV m_failed2_19 0 0 := iv_meet iv_29 hc_69.2 (by decide) (by decide)
            have iv_74 : IV r_57 1 1 := iv_neL h_60 iv_58 (show IV 0 0 0 from (by decide)) (by decide)
            refine k_iconst (v := 3) X dX11_manLine_87 (by decide) ?_
            refine k_goto 92 X dX11_manLine_88 (by decide) ?_
            refine k_istore_n [(2, .int 3), (1, .int z_11), (0, .ref h0)] X dX11_manLine_92 (by decide) rfl ?_
            refine k_iload_n X dX11_manLine_93 0 rfl ?_
            refine k_if_ge 106 X dX11_manLine_94 (by decide) (fun _ => ?_) (fun h_75 => absurd (by decide) h_75)
            refine k_aload_n X dX11_manLine_106 2 rfl ?_
            refine k_get (ci := 11) X inlX11 rfl 13 (by decide) dX11_manLine_107 mw469 2 rfl rfl ?_
            refine k_if_eq 114 X dX11_manLine_110 (by decide) (fun h_76 => ?_) (fun h_76 => absurd (iv_eq iv_73 (show IV 0 0 0 from (by decide))) h_76)
            refine k_aload_n X dX11_manLine_114 2 rfl ?_
            refine k_callVV (n := 0) (As := []) (st := []) X [(h0, .inr (11, [.int m_thrown, .ref a_tape, .int m_taped, .int m_size, .int m_at2_17, .int m_end2_18, .int m_token2_25, .int m_whole2_26, .int m_nameSize2_23, .int m_fault2_20, .int m_place2_24, .int m_trouble, .ref a_letters, .int m_failed2_19, .int m_hasHouse, .ref a_r, .ref a_fresh, .ref a_st, .ref a_undone, .ref a_kept, .int m_undos, .int m_images, .ref a_from, .ref a_begin, .ref a_motor, .ref a_change, .ref a_startFrame, .ref a_changeFrame, .ref a_lostAt, .ref a_blackAt, .ref a_slips, .ref a_leftArc, .ref a_died, .ref a_arcs, .int m_bestSum, .int m_nearest, .int m_nearestTown, .ref a_there, .ref a_backAt, .ref a_sorted, .ref a_parts, .int m_seed1, .int m_darkNow])), (a_tape, .inl (g.2.2.1, 900, .inl d_tape)), (a_letters, .inl (g.2.2.1, 8, .inl d_letters2_22))] [(a_fresh, .inl (g.2.2.1, 311, .inl d_fresh2_21))] [2, 0, 3] [1] (m_next l g h0 m_thrown a_tape m_taped m_size m_at2_17 m_end2_18 m_token2_25 m_whole2_26 m_nameSize2_23 m_fault2_20 m_place2_24 m_trouble a_letters m_failed2_19 m_hasHouse a_r a_fresh a_st a_undone a_kept m_undos m_images a_from a_begin a_motor a_change a_startFrame a_changeFrame a_lostAt a_blackAt a_slips a_leftArc a_died a_arcs m_bestSum m_nearest m_nearestTown a_there a_backAt a_sorted a_parts m_seed1 m_darkNow d_tape d_letters2_22 (iv_w hv_m_size (by decide) (by decide)) (iv_w iv_28 (by decide) (by decide)) (iv_w iv_72 (by decide) (by decide))) dX11_manLine_115 mw489 mw490 mw491 mw5 mw492 rfl 11 rfl rfl 0 _ rfl (by unfold yOk; decide) rfl (Nat.le_of_ble_eq_true rfl) (Nat.le_of_ble_eq_true rfl) (Nat.le_of_ble_eq_true rfl) (Nat.le_of_ble_eq_true rfl) (Nat.le_of_ble_eq_true rfl) rfl rfl (by decide) rfl (by decide) (by decide) ?_
            rintro w ⟨m_at2_77, m_end2_78, d_letters2_79, m_nameSize2_80, m_token2_81, m_whole2_82, iv_84, iv_85, hq_86, hq_87, hk_88, rfl⟩
            refine k_ws [(a_fresh, .inl (g.2.2.1, 311, .inl d_fresh2_21)), (h0, .inr (11, [.int m_thrown, .ref a_tape, .int m_taped, .int m_size, .int m_at2_77, .int m_end2_78, .int m_token2_81, .int m_whole2_82, .int m_nameSize2_80, .int m_fault2_20, .int m_place2_24, .int m_trouble, .ref a_letters, .int m_failed2_19, .int m_hasHouse, .ref a_r, .ref a_fresh, .ref a_st, .ref a_undone, .ref a_kept, .int m_undos, .int m_images, .ref a_from, .ref a_begin, .ref a_motor, .ref a_change, .ref a_startFrame, .ref a_changeFrame, .ref a_lostAt, .ref a_blackAt, .ref a_slips, .ref a_leftArc, .ref a_died, .ref a_arcs, .int m_bestSum, .int m_nearest, .int m_nearestTown, .ref a_there, .ref a_backAt, .ref a_sorted, .ref a_parts, .int m_seed1, .int m_darkNow])), (a_tape, .inl (g.2.2.1, 900, .inl d_tape)), (a_letters, .inl (g.2.2.1, 8, .inl d_letters2_79))] rfl ?_
            refine k_iconst (v := 0) X dX11_manLine_118 (by decide) ?_
            refine k_istore_n [(3, .int 0), (2, .int 3), (1, .int z_11), (0, .ref h0)] X dX11_manLine_119 (by decide) rfl ?_
            refine k_iload_n X dX11_manLine_120 1 rfl ?_
            refine k_iconst (v := 3) X dX11_manLine_121 (by decide) ?_
            refine k_ic_ne 145 X dX11_manLine_122 (by decide) (fun h_89 => absurd h_89 (by decide)) (fun _ => ?_)
            refine k_aload_n X dX11_manLine_125 3 rfl ?_
            refine k_bipush (v := 8) X dX11_manLine_126 (by decide) ?_
            refine k_bipush (v := 11) X dX11_manLine_128 (by decide) ?_
            refine k_callVI (n := 2) (As := [.int 8, .int 11]) (st := []) X [(h0, .inr (11, [.int m_thrown, .ref a_tape, .int m_taped, .int m_size, .int m_at2_77, .int m_end2_78, .int m_token2_81, .int m_whole2_82, .int m_nameSize2_80, .int m_fault2_20, .int m_place2_24, .int m_trouble, .ref a_letters, .int m_failed2_19, .int m_hasHouse, .ref a_r, .ref a_fresh, .ref a_st, .ref a_undone, .ref a_kept, .int m_undos, .int m_images, .ref a_from, .ref a_begin, .ref a_motor, .ref a_change, .ref a_startFrame, .ref a_changeFrame, .ref a_lostAt, .ref a_blackAt, .ref a_slips, .ref a_leftArc, .ref a_died, .ref a_arcs, .int m_bestSum, .int m_nearest, .int m_nearestTown, .ref a_there, .ref a_backAt, .ref a_sorted, .ref a_parts, .int m_seed1, .int m_darkNow])), (a_letters, .inl (g.2.2.1, 8, .inl d_letters2_79)), (a_fresh, .inl (g.2.2.1, 311, .inl d_fresh2_21))] [(a_tape, .inl (g.2.2.1, 900, .inl d_tape))] [1, 3, 0] [2] (m_namedT l g h0 m_thrown a_tape m_taped m_size m_at2_77 m_end2_78 m_token2_81 m_whole2_82 m_nameSize2_80 m_fault2_20 m_place2_24 m_trouble a_letters m_failed2_19 m_hasHouse a_r a_fresh a_st a_undone a_kept m_undos m_images a_from a_begin a_motor a_change a_startFrame a_changeFrame a_lostAt a_blackAt a_slips a_leftArc a_died a_arcs m_bestSum m_nearest m_nearestTown a_there a_backAt a_sorted a_parts m_seed1 m_darkNow d_letters2_79 d_fresh2_21 (iv_w iv_85 (by decide) (by decide)) (iv_w iv_73 (by decide) (by decide)) hp_31 hk_88) dX11_manLine_130 mw575 mw576 mw577 mw5 mw578 rfl 11 rfl rfl 0 _ rfl (by unfold yOk; decide) rfl (Nat.le_of_ble_eq_true rfl) (Nat.le_of_ble_eq_true rfl) (Nat.le_of_ble_eq_true rfl) (Nat.le_of_ble_eq_true rfl) (Nat.le_of_ble_eq_true rfl) rfl rfl (by decide) rfl (by decide) (by decide) ?_
            rintro r_93 w ⟨m_failed2_90, m_fault2_91, m_place2_92, iv_94, iv_95, hq_96, rfl⟩
            refine k_ws [(a_tape, .inl (g.2.2.1, 900, .inl d_tape)), (h0, .inr (11, [.int m_thrown, .ref a_tape, .int m_taped, .int m_size, .int m_at2_77, .int m_end2_78, .int m_token2_81, .int m_whole2_82, .int m_nameSize2_80, .int m_fault2_91, .int m_place2_92, .int m_trouble, .ref a_letters, .int m_failed2_90, .int m_hasHouse, .ref a_r, .ref a_fresh, .ref a_st, .ref a_undone, .ref a_kept, .int m_undos, .int m_images, .ref a_from, .ref a_begin, .ref a_motor, .ref a_change, .ref a_startFrame, .ref a_changeFrame, .ref a_lostAt, .ref a_blackAt, .ref a_slips, .ref a_leftArc, .ref a_died, .ref a_arcs, .int m_bestSum, .int m_nearest, .int m_nearestTown, .ref a_there, .ref a_backAt, .ref a_sorted, .ref a_parts, .int m_seed1, .int m_darkNow])), (a_letters, .inl (g.2.2.1, 8, .inl d_letters2_79)), (a_fresh, .inl (g.2.2.1, 311, .inl d_fresh2_21))] rfl ?_
            refine k_istore_n [(3, .int r_93), (2, .int 3), (1, .int z_11), (0, .ref h0)] X dX11_manLine_133 (by decide) rfl ?_
            refine k_aload_n X dX11_manLine_134 3 rfl ?_
            refine k_get (ci := 11) X inlX11 rfl 13 (by decide) dX11_manLine_135 mw469 1 rfl rfl ?_
            refine k_if_ne 145 X dX11_manLine_138 (by decide) (fun h_97 => ?_) (fun h_97 => ?_)
            · skip
              have iv_98 : IV m_failed2_90 1 1 := iv_neL h_97 iv_94 (show IV 0 0 0 from (by decide)) (by decide)
              refine k_aload_n X dX11_manLine_145 3 rfl ?_
              refine k_ldcwS (tx := "slip") X dX11_manLine_146 (by decide +kernel) (fun sr_99 hsr_99 => ?_)
              refine k_iconst (v := 0) X dX11_manLine_149 (by decide) ?_
              refine k_bipush (v := 40) X dX11_manLine_150 (by decide) ?_
              refine k_callVI (n := 3) (As := [.ref sr_99, .int 0, .int 40]) (st := []) X [(h0, .inr (11, [.int m_thrown, .ref a_tape, .int m_taped, .int m_size, .int m_at2_77, .int m_end2_78, .int m_token2_81, .int m_whole2_82, .int m_nameSize2_80, .int m_fault2_91, .int m_place2_92, .int m_trouble, .ref a_letters, .int m_failed2_90, .int m_hasHouse, .ref a_r, .ref a_fresh, .ref a_st, .ref a_undone, .ref a_kept, .int m_undos, .int m_images, .ref a_from, .ref a_begin, .ref a_motor, .ref a_change, .ref a_startFrame, .ref a_changeFrame, .ref a_lostAt, .ref a_blackAt, .ref a_slips, .ref a_leftArc, .ref a_died, .ref a_arcs, .int m_bestSum, .int m_nearest, .int m_nearestTown, .ref a_there, .ref a_backAt, .ref a_sorted, .ref a_parts, .int m_seed1, .int m_darkNow])), (a_tape, .inl (g.2.2.1, 900, .inl d_tape)), (a_letters, .inl (g.2.2.1, 8, .inl d_letters2_79))] [(a_fresh, .inl (g.2.2.1, 311, .inl d_fresh2_21))] [1, 0, 2] [3] (m_after l g h0 sr_99 0 40 m_thrown a_tape m_taped m_size m_at2_77 m_end2_78 m_token2_81 m_whole2_82 m_nameSize2_80 m_fault2_91 m_place2_92 m_trouble a_letters m_failed2_90 m_hasHouse a_r a_fresh a_st a_undone a_kept m_undos m_images a_from a_begin a_motor a_change a_startFrame a_changeFrame a_lostAt a_blackAt a_slips a_leftArc a_died a_arcs m_bestSum m_nearest m_nearestTown a_there a_backAt a_sorted a_parts m_seed1 m_darkNow d_tape d_letters2_79 ("slip") (iv_w hv_m_size (by decide) (by decide)) (iv_w iv_84 (by decide) (by decide)) (iv_w iv_85 (by decide) (by decide)) (iv_w iv_98 (by decide) (by decide)) hsr_99 hk_88) dX11_manLine_152 mw523 mw524 mw525 mw5 mw526 rfl 11 rfl rfl 0 _ rfl (by unfold yOk; decide) rfl (Nat.le_of_ble_eq_true rfl) (Nat.le_of_ble_eq_true rfl) (Nat.le_of_ble_eq_true rfl) (Nat.le_of_ble_eq_true rfl) (Nat.le_of_ble_eq_true rfl) rfl rfl (by decide) rfl (by decide) (by decide) ?_
              rintro r_109 w ⟨m_at2_100, m_end2_101, m_failed2_102, m_fault2_103, d_letters2_104, m_nameSize2_105, m_place2_106, m_token2_107, m_whole2_108, iv_110, iv_111, iv_112, hq_113, hq_114, hk_115, rfl⟩
              refine k_ws [(a_fresh, .inl (g.2.2.1, 311, .inl d_fresh2_21)), (h0, .inr (11, [.int m_thrown, .ref a_tape, .int m_taped, .int m_size, .int m_at2_100, .int m_end2_101, .int m_token2_107, .int m_whole2_108, .int m_nameSize2_105, .int m_fault2_103, .int m_place2_106, .int m_trouble, .ref a_letters, .int m_failed2_102, .int m_hasHouse, .ref a_r, .ref a_fresh, .ref a_st, .ref a_undone, .ref a_kept, .int m_undos, .int m_images, .ref a_from, .ref a_begin, .ref a_motor, .ref a_change, .ref a_startFrame, .ref a_changeFrame, .ref a_lostAt, .ref a_blackAt, .ref a_slips, .ref a_leftArc, .ref a_died, .ref a_arcs, .int m_bestSum, .int m_nearest, .int m_nearestTown, .ref a_there, .ref a_backAt, .ref a_sorted, .ref a_parts, .int m_seed1, .int m_darkNow])), (a_tape, .inl (g.2.2.1, 900, .inl d_tape)), (a_letters, .inl (g.2.2.1, 8, .inl d_letters2_104))] rfl ?_
              have e_116 : (0 : Int32).toInt = 0 := by decide
              have e_117 : (40 : Int32).toInt = 40 := by decide
              have iv_118 : IV r_109 0 40 := by have := (show IV 0 0 0 from (by decide)); have := (show IV 40 40 40 from (by decide)); rw [IV]; omega
              refine k_istore [(4, .int r_109), (3, .int r_93), (2, .int 3), (1, .int z_11), (0, .ref h0)] X dX11_manLine_155 (by decide) rfl ?_
              refine k_aload_n X dX11_manLine_157 4 rfl ?_
              refine k_get (ci := 11) X inlX11 rfl 13 (by decide) dX11_manLine_158 mw469 1 rfl rfl ?_
              refine k_if_eq 165 X dX11_manLine_161 (by decide) (fun h_119 => ?_) (fun h_119 => ?_)
              · skip
                have iv_120 : IV m_failed2_102 0 0 := iv_meet iv_111 (iv_e h_119 (show IV 0 0 0 from (by decide))) (by decide) (by decide)
                refine k_aload_n X dX11_manLine_165 4 rfl ?_
                refine k_get (ci := 11) X inlX11 rfl 16 (by decide) dX11_manLine_166 mw171 1 rfl rfl ?_
                refine k_iload_n X dX11_manLine_169 3 rfl ?_
                refine k_iload_n X dX11_manLine_170 2 rfl ?_
                refine k_iast [(a_fresh, .inl (g.2.2.1, 311, .inl (upd d_fresh2_21 (z_11 : Int32).toNatClampNeg 3))), (h0, .inr (11, [.int m_thrown, .ref a_tape, .int m_taped, .int m_size, .int m_at2_100, .int m_end2_101, .int m_token2_107, .int m_whole2_108, .int m_nameSize2_105, .int m_fault2_103, .int m_place2_106, .int m_trouble, .ref a_letters, .int m_failed2_102, .int m_hasHouse, .ref a_r, .ref a_fresh, .ref a_st, .ref a_undone, .ref a_kept, .int m_undos, .int m_images, .ref a_from, .ref a_begin, .ref a_motor, .ref a_change, .ref a_startFrame, .ref a_changeFrame, .ref a_lostAt, .ref a_blackAt, .ref a_slips, .ref a_leftArc, .ref a_died, .ref a_arcs, .int m_bestSum, .int m_nearest, .int m_nearestTown, .ref a_there, .ref a_backAt, .ref a_sorted, .ref a_parts, .int m_seed1, .int m_darkNow])), (a_tape, .inl (g.2.2.1, 900, .inl d_tape)), (a_letters, .inl (g.2.2.1, 8, .inl d_letters2_104))] X dX11_manLine_171 0 rfl (iv_in iv_13 (by decide) (by decide)) rfl ?_
                have i_123 : z_11.toInt = 114 + 3 * z_5.toInt := by omega
                refine (fun hg : ∀ fa_121 : Nat → Int32, fa_121 = upd d_fresh2_21 (z_11 : Int32).toNatClampNeg 3 → RInv fa_121 → K16 d_fresh2_21 fa_121 → Wk p l e _ s m args below meth c _ A g _ _ _ [(a_fresh, .inl (g.2.2.1, 311, .inl fa_121)), (h0, .inr (11, [.int m_thrown, .ref a_tape, .int m_taped, .int m_size, .int m_at2_100, .int m_end2_101, .int m_token2_107, .int m_whole2_108, .int m_nameSize2_105, .int m_fault2_103, .int m_place2_106, .int m_trouble, .ref a_letters, .int m_failed2_102, .int m_hasHouse, .ref a_r, .ref a_fresh, .ref a_st, .ref a_undone, .ref a_kept, .int m_undos, .int m_images, .ref a_from, .ref a_begin, .ref a_motor, .ref a_change, .ref a_startFrame, .ref a_changeFrame, .ref a_lostAt, .ref a_blackAt, .ref a_slips, .ref a_leftArc, .ref a_died, .ref a_arcs, .int m_bestSum, .int m_nearest, .int m_nearestTown, .ref a_there, .ref a_backAt, .ref a_sorted, .ref a_parts, .int m_seed1, .int m_darkNow])), (a_tape, .inl (g.2.2.1, 900, .inl d_tape)), (a_letters, .inl (g.2.2.1, 8, .inl d_letters2_104))] _ _ _ => hg _ rfl (w_fr_114_3 hp_31 i_123 (iv_w iv_7 (by decide) (by decide))) (k16_u (z := z_11) (by have := iv_13; omega))) (fun fa_121 eq_125 hR_122 hk_124 => ?_)
                have ek_126 : z_5 = fa_121 (11 : Int32).toNatClampNeg := ek_36.trans (hk_124 _ (by decide)).symm
                have hT_127 : TRI fa_121 := by have := iv_13; exact tri_z (z := z_11) eq_125 hT_37 hp_31 (by omega) (by omega) (by omega) (by omega) (by omega)
                refine k_aload_n X dX11_manLine_172 4 rfl ?_
                refine k_get (ci := 11) X inlX11 rfl 16 (by decide) dX11_manLine_173 mw171 1 rfl rfl ?_
                refine k_iload_n X dX11_manLine_176 3 rfl ?_
                refine k_iconst (v := 1) X dX11_manLine_177 (by decide) ?_
                refine k_iadd X dX11_manLine_178 ?_
                refine k_nm (fun z_128 ez_128 => ?_)
                have i_129 : z_128.toInt = z_11.toInt + 1 := in_add ez_128 iv_13 (show IV 1 1 1 from (by decide)) (by decide) (by decide)
                have iv_130 : IV z_128 115 124 := by have := iv_13; have := (show IV 1 1 1 from (by decide)); rw [IV, i_129]; omega
                refine k_iload_n X dX11_manLine_179 1 rfl ?_
                refine k_iast [(a_fresh, .inl (g.2.2.1, 311, .inl (upd fa_121 (z_128 : Int32).toNatClampNeg r_93))), (h0, .inr (11, [.int m_thrown, .ref a_tape, .int m_taped, .int m_size, .int m_at2_100, .int m_end2_101, .int m_token2_107, .int m_whole2_108, .int m_nameSize2_105, .int m_fault2_103, .int m_place2_106, .int m_trouble, .ref a_letters, .int m_failed2_102, .int m_hasHouse, .ref a_r, .ref a_fresh, .ref a_st, .ref a_undone, .ref a_kept, .int m_undos, .int m_images, .ref a_from, .ref a_begin, .ref a_motor, .ref a_change, .ref a_startFrame, .ref a_changeFrame, .ref a_lostAt, .ref a_blackAt, .ref a_slips, .ref a_leftArc, .ref a_died, .ref a_arcs, .int m_bestSum, .int m_nearest, .int m_nearestTown, .ref a_there, .ref a_backAt, .ref a_sorted, .ref a_parts, .int m_seed1, .int m_darkNow])), (a_tape, .inl (g.2.2.1, 900, .inl d_tape)), (a_letters, .inl (g.2.2.1, 8, .inl d_letters2_104))] X dX11_manLine_180 0 rfl (iv_in iv_130 (by decide) (by decide)) rfl ?_
                have i_133 : z_128.toInt = 115 + 3 * z_5.toInt := by omega
                refine (fun hg : ∀ fa_131 : Nat → Int32, fa_131 = upd fa_121 (z_128 : Int32).toNatClampNeg r_93 → RInv fa_131 → K16 fa_121 fa_131 → Wk p l e _ s m args below meth c _ A g _ _ _ [(a_fresh, .inl (g.2.2.1, 311, .inl fa_131)), (h0, .inr (11, [.int m_thrown, .ref a_tape, .int m_taped, .int m_size, .int m_at2_100, .int m_end2_101, .int m_token2_107, .int m_whole2_108, .int m_nameSize2_105, .int m_fault2_103, .int m_place2_106, .int m_trouble, .ref a_letters, .int m_failed2_102, .int m_hasHouse, .ref a_r, .ref a_fresh, .ref a_st, .ref a_undone, .ref a_kept, .int m_undos, .int m_images, .ref a_from, .ref a_begin, .ref a_motor, .ref a_change, .ref a_startFrame, .ref a_changeFrame, .ref a_lostAt, .ref a_blackAt, .ref a_slips, .ref a_leftArc, .ref a_died, .ref a_arcs, .int m_bestSum, .int m_nearest, .int m_nearestTown, .ref a_there, .ref a_backAt, .ref a_sorted, .ref a_parts, .int m_seed1, .int m_darkNow])), (a_tape, .inl (g.2.2.1, 900, .inl d_tape)), (a_letters, .inl (g.2.2.1, 8, .inl d_letters2_104))] _ _ _ => hg _ rfl (w_fr_115_3 hR_122 i_133 (iv_w iv_7 (by decide) (by decide))) (k16_u (z := z_128) (by have := iv_130; omega))) (fun fa_131 eq_135 hR_132 hk_134 => ?_)
                have ek_136 : z_5 = fa_131 (11 : Int32).toNatClampNeg := ek_126.trans (hk_134 _ (by decide)).symm
                have hT_137 : TRI fa_131 := by have := iv_130; exact tri_z (z := z_128) eq_135 hT_127 hR_122 (by omega) (by omega) (by omega) (by omega) (by omega)
                refine k_aload_n X dX11_manLine_181 4 rfl ?_
                refine k_get (ci := 11) X inlX11 rfl 16 (by decide) dX11_manLine_182 mw171 1 rfl rfl ?_
                refine k_iload_n X dX11_manLine_185 3 rfl ?_
                refine k_iconst (v := 2) X dX11_manLine_186 (by decide) ?_
                refine k_iadd X dX11_manLine_187 ?_
                refine k_nm (fun z_138 ez_138 => ?_)
                have i_139 : z_138.toInt = z_11.toInt + 2 := in_add ez_138 iv_13 (show IV 2 2 2 from (by decide)) (by decide) (by decide)
                have iv_140 : IV z_138 116 125 := by have := iv_13; have := (show IV 2 2 2 from (by decide)); rw [IV, i_139]; omega
                refine k_iload X dX11_manLine_188 0 rfl ?_
                refine k_iast [(a_fresh, .inl (g.2.2.1, 311, .inl (upd fa_131 (z_138 : Int32).toNatClampNeg r_109))), (h0, .inr (11, [.int m_thrown, .ref a_tape, .int m_taped, .int m_size, .int m_at2_100, .int m_end2_101, .int m_token2_107, .int m_whole2_108, .int m_nameSize2_105, .int m_fault2_103, .int m_place2_106, .int m_trouble, .ref a_letters, .int m_failed2_102, .int m_hasHouse, .ref a_r, .ref a_fresh, .ref a_st, .ref a_undone, .ref a_kept, .int m_undos, .int m_images, .ref a_from, .ref a_begin, .ref a_motor, .ref a_change, .ref a_startFrame, .ref a_changeFrame, .ref a_lostAt, .ref a_blackAt, .ref a_slips, .ref a_leftArc, .ref a_died, .ref a_arcs, .int m_bestSum, .int m_nearest, .int m_nearestTown, .ref a_there, .ref a_backAt, .ref a_sorted, .ref a_parts, .int m_seed1, .int m_darkNow])), (a_tape, .inl (g.2.2.1, 900, .inl d_tape)), (a_letters, .inl (g.2.2.1, 8, .inl d_letters2_104))] X dX11_manLine_190 0 rfl (iv_in iv_140 (by decide) (by decide)) rfl ?_
                have i_143 : z_138.toInt = 116 + 3 * z_5.toInt := by omega
                refine (fun hg : ∀ fa_141 : Nat → Int32, fa_141 = upd fa_131 (z_138 : Int32).toNatClampNeg r_109 → RInv fa_141 → K16 fa_131 fa_141 → Wk p l e _ s m args below meth c _ A g _ _ _ [(a_fresh, .inl (g.2.2.1, 311, .inl fa_141)), (h0, .inr (11, [.int m_thrown, .ref a_tape, .int m_taped, .int m_size, .int m_at2_100, .int m_end2_101, .int m_token2_107, .int m_whole2_108, .int m_nameSize2_105, .int m_fault2_103, .int m_place2_106, .int m_trouble, .ref a_letters, .int m_failed2_102, .int m_hasHouse, .ref a_r, .ref a_fresh, .ref a_st, .ref a_undone, .ref a_kept, .int m_undos, .int m_images, .ref a_from, .ref a_begin, .ref a_motor, .ref a_change, .ref a_startFrame, .ref a_changeFrame, .ref a_lostAt, .ref a_blackAt, .ref a_slips, .ref a_leftArc, .ref a_died, .ref a_arcs, .int m_bestSum, .int m_nearest, .int m_nearestTown, .ref a_there, .ref a_backAt, .ref a_sorted, .ref a_parts, .int m_seed1, .int m_darkNow])), (a_tape, .inl (g.2.2.1, 900, .inl d_tape)), (a_letters, .inl (g.2.2.1, 8, .inl d_letters2_104))] _ _ _ => hg _ rfl (w_rb_116_3 hR_132 i_143 (iv_w iv_7 (by decide) (by decide)) (iv_w iv_118 (by decide) (by decide))) (k16_u (z := z_138) (by have := iv_140; omega))) (fun fa_141 eq_145 hR_142 hk_144 => ?_)
                have ek_146 : z_5 = fa_141 (11 : Int32).toNatClampNeg := ek_136.trans (hk_144 _ (by decide)).symm
                have hT_147 : TRI fa_141 := by have := iv_140; exact tri_z (z := z_138) eq_145 hT_137 hR_132 (by omega) (by omega) (by omega) (by omega) (by omega)
                refine k_aload_n X dX11_manLine_191 4 rfl ?_
                refine k_get (ci := 11) X inlX11 rfl 16 (by decide) dX11_manLine_192 mw171 1 rfl rfl ?_
                refine k_bipush (v := 11) X dX11_manLine_195 (by decide) ?_
                refine k_dup2 X dX11_manLine_197 rfl rfl ?_
                refine k_iald X dX11_manLine_198 0 rfl (by unfold vp_in; decide) ?_
                refine k_to z_5 ek_146.symm ?_
                refine k_iconst (v := 1) X dX11_manLine_199 (by decide) ?_
                refine k_iadd X dX11_manLine_200 ?_
                refine k_nm (fun z_148 ez_148 => ?_)
                have i_149 : z_148.toInt = z_5.toInt + 1 := in_add ez_148 iv_7 (show IV 1 1 1 from (by decide)) (by decide) (by decide)
                have iv_150 : IV z_148 1 4 := by have := iv_7; have := (show IV 1 1 1 from (by decide)); rw [IV, i_149]; omega
                refine k_iast [(a_fresh, .inl (g.2.2.1, 311, .inl (upd fa_141 (11 : Int32).toNatClampNeg z_148))), (h0, .inr (11, [.int m_thrown, .ref a_tape, .int m_taped, .int m_size, .int m_at2_100, .int m_end2_101, .int m_token2_107, .int m_whole2_108, .int m_nameSize2_105, .int m_fault2_103, .int m_place2_106, .int m_trouble, .ref a_letters, .int m_failed2_102, .int m_hasHouse, .ref a_r, .ref a_fresh, .ref a_st, .ref a_undone, .ref a_kept, .int m_undos, .int m_images, .ref a_from, .ref a_begin, .ref a_motor, .ref a_change, .ref a_startFrame, .ref a_changeFrame, .ref a_lostAt, .ref a_blackAt, .ref a_slips, .ref a_leftArc, .ref a_died, .ref a_arcs, .int m_bestSum, .int m_nearest, .int m_nearestTown, .ref a_there, .ref a_backAt, .ref a_sorted, .ref a_parts, .int m_seed1, .int m_darkNow])), (a_tape, .inl (g.2.2.1, 900, .inl d_tape)), (a_letters, .inl (g.2.2.1, 8, .inl d_letters2_104))] X dX11_manLine_201 0 rfl (by unfold vp_in; decide) rfl ?_
                refine (fun hg : ∀ fa_151 : Nat → Int32, fa_151 = upd fa_141 (11 : Int32).toNatClampNeg z_148 → RInv fa_151 → Wk p l e _ s m args below meth c _ A g _ _ _ [(a_fresh, .inl (g.2.2.1, 311, .inl fa_151)), (h0, .inr (11, [.int m_thrown, .ref a_tape, .int m_taped, .int m_size, .int m_at2_100, .int m_end2_101, .int m_token2_107, .int m_whole2_108, .int m_nameSize2_105, .int m_fault2_103, .int m_place2_106, .int m_trouble, .ref a_letters, .int m_failed2_102, .int m_hasHouse, .ref a_r, .ref a_fresh, .ref a_st, .ref a_undone, .ref a_kept, .int m_undos, .int m_images, .ref a_from, .ref a_begin, .ref a_motor, .ref a_change, .ref a_startFrame, .ref a_changeFrame, .ref a_lostAt, .ref a_blackAt, .ref a_slips, .ref a_leftArc, .ref a_died, .ref a_arcs, .int m_bestSum, .int m_nearest, .int m_nearestTown, .ref a_there, .ref a_backAt, .ref a_sorted, .ref a_parts, .int m_seed1, .int m_darkNow])), (a_tape, .inl (g.2.2.1, 900, .inl d_tape)), (a_letters, .inl (g.2.2.1, 8, .inl d_letters2_104))] _ _ _ => hg _ rfl (w_rb_11 hR_142 (iv_w iv_150 (by decide) (by decide)))) (fun fa_151 eq_154 hR_152 => ?_)
                have hT_155 : TRI fa_151 := by rw [eq_154]; exact tri_n (z := 11) hT_147 hR_142 (by decide) (by decide) (by decide) (by decide)
                exact k_vret X hr dX11_manLine_202 (Nat.le_of_ble_eq_true rfl) (Nat.le_of_ble_eq_true rfl) [1, 2, 3, 0] (by decide) rfl rfl ⟨m_at2_100, m_end2_101, m_failed2_102, m_fault2_103, fa_151, d_letters2_104, m_nameSize2_105, m_place2_106, m_token2_107, m_whole2_108, (iv_w iv_110 (by decide) (by decide)), (iv_w iv_120 (by decide) (by decide)), (iv_w iv_112 (by decide) (by decide)), hR_152, (by omega), hT_155, hk_115, rfl⟩
              · skip
                have iv_156 : IV m_failed2_102 1 1 := iv_neL h_119 iv_111 (show IV 0 0 0 from (by decide)) (by decide)
                exact k_vret X hr dX11_manLine_164 (Nat.le_of_ble_eq_true rfl) (Nat.le_of_ble_eq_true rfl) [1, 2, 3, 0] (by decide) rfl rfl ⟨m_at2_100, m_end2_101, m_failed2_102, m_fault2_103, d_fresh2_21, d_letters2_104, m_nameSize2_105, m_place2_106, m_token2_107, m_whole2_108, (iv_w iv_110 (by decide) (by decide)), (iv_w iv_156 (by decide) (by decide)), (iv_w iv_112 (by decide) (by decide)), hp_31, (by omega), hT_37, hk_115, rfl⟩
            · skip
              have iv_157 : IV m_failed2_90 0 0 := iv_meet iv_94 (iv_e h_97 (show IV 0 0 0 from (by decide))) (by decide) (by decide)
              refine k_aload_n X dX11_manLine_141 3 rfl ?_
              refine k_callVV (n := 0) (As := []) (st := []) X [(h0, .inr (11, [.int m_thrown, .ref a_tape, .int m_taped, .int m_size, .int m_at2_77, .int m_end2_78, .int m_token2_81, .int m_whole2_82, .int m_nameSize2_80, .int m_fault2_91, .int m_place2_92, .int m_trouble, .ref a_letters, .int m_failed2_90, .int m_hasHouse, .ref a_r, .ref a_fresh, .ref a_st, .ref a_undone, .ref a_kept, .int m_undos, .int m_images, .ref a_from, .ref a_begin, .ref a_motor, .ref a_change, .ref a_startFrame, .ref a_changeFrame, .ref a_lostAt, .ref a_blackAt, .ref a_slips, .ref a_leftArc, .ref a_died, .ref a_arcs, .int m_bestSum, .int m_nearest, .int m_nearestTown, .ref a_there, .ref a_backAt, .ref a_sorted, .ref a_parts, .int m_seed1, .int m_darkNow])), (a_tape, .inl (g.2.2.1, 900, .inl d_tape)), (a_letters, .inl (g.2.2.1, 8, .inl d_letters2_79))] [(a_fresh, .inl (g.2.2.1, 311, .inl d_fresh2_21))] [1, 0, 2] [3] (m_next l g h0 m_thrown a_tape m_taped m_size m_at2_77 m_end2_78 m_token2_81 m_whole2_82 m_nameSize2_80 m_fault2_91 m_place2_92 m_trouble a_letters m_failed2_90 m_hasHouse a_r a_fresh a_st a_undone a_kept m_undos m_images a_from a_begin a_motor a_change a_startFrame a_changeFrame a_lostAt a_blackAt a_slips a_leftArc a_died a_arcs m_bestSum m_nearest m_nearestTown a_there a_backAt a_sorted a_parts m_seed1 m_darkNow d_tape d_letters2_79 (iv_w hv_m_size (by decide) (by decide)) (iv_w iv_84 (by decide) (by decide)) (iv_w iv_85 (by decide) (by decide))) dX11_manLine_142 mw489 mw490 mw491 mw5 mw492 rfl 11 rfl rfl 0 _ rfl (by unfold yOk; decide) rfl (Nat.le_of_ble_eq_true rfl) (Nat.le_of_ble_eq_true rfl) (Nat.le_of_ble_eq_true rfl) (Nat.le_of_ble_eq_true rfl) (Nat.le_of_ble_eq_true rfl) rfl rfl (by decide) rfl (by decide) (by decide) ?_
              rintro w ⟨m_at2_158, m_end2_159, d_letters2_160, m_nameSize2_161, m_token2_162, m_whole2_163, iv_165, iv_166, hq_167, hq_168, hk_169, rfl⟩
              refine k_ws [(a_fresh, .inl (g.2.2.1, 311, .inl d_fresh2_21)), (h0, .inr (11, [.int m_thrown, .ref a_tape, .int m_taped, .int m_size, .int m_at2_158, .int m_end2_159, .int m_token2_162, .int m_whole2_163, .int m_nameSize2_161, .int m_fault2_91, .int m_place2_92, .int m_trouble, .ref a_letters, .int m_failed2_90, .int m_hasHouse, .ref a_r, .ref a_fresh, .ref a_st, .ref a_undone, .ref a_kept, .int m_undos, .int m_images, .ref a_from, .ref a_begin, .ref a_motor, .ref a_change, .ref a_startFrame, .ref a_changeFrame, .ref a_lostAt, .ref a_blackAt, .ref a_slips, .ref a_leftArc, .ref a_died, .ref a_arcs, .int m_bestSum, .int m_nearest, .int m_nearestTown, .ref a_there, .ref a_backAt, .ref a_sorted, .ref a_parts, .int m_seed1, .int m_darkNow])), (a_tape, .inl (g.2.2.1, 900, .inl d_tape)), (a_letters, .inl (g.2.2.1, 8, .inl d_letters2_160))] rfl ?_
              refine k_aload_n X dX11_manLine_145 3 rfl ?_
              refine k_ldcwS (tx := "slip") X dX11_manLine_146 (by decide +kernel) (fun sr_170 hsr_170 => ?_)
              refine k_iconst (v := 0) X dX11_manLine_149 (by decide) ?_
              refine k_bipush (v := 40) X dX11_manLine_150 (by decide) ?_
              refine k_callVI (n := 3) (As := [.ref sr_170, .int 0, .int 40]) (st := []) X [(h0, .inr (11, [.int m_thrown, .ref a_tape, .int m_taped, .int m_size, .int m_at2_158, .int m_end2_159, .int m_token2_162, .int m_whole2_163, .int m_nameSize2_161, .int m_fault2_91, .int m_place2_92, .int m_trouble, .ref a_letters, .int m_failed2_90, .int m_hasHouse, .ref a_r, .ref a_fresh, .ref a_st, .ref a_undone, .ref a_kept, .int m_undos, .int m_images, .ref a_from, .ref a_begin, .ref a_motor, .ref a_change, .ref a_startFrame, .ref a_changeFrame, .ref a_lostAt, .ref a_blackAt, .ref a_slips, .ref a_leftArc, .ref a_died, .ref a_arcs, .int m_bestSum, .int m_nearest, .int m_nearestTown, .ref a_there, .ref a_backAt, .ref a_sorted, .ref a_parts, .int m_seed1, .int m_darkNow])), (a_tape, .inl (g.2.2.1, 900, .inl d_tape)), (a_letters, .inl (g.2.2.1, 8, .inl d_letters2_160))] [(a_fresh, .inl (g.2.2.1, 311, .inl d_fresh2_21))] [1, 2, 3] [0] (m_after l g h0 sr_170 0 40 m_thrown a_tape m_taped m_size m_at2_158 m_end2_159 m_token2_162 m_whole2_163 m_nameSize2_161 m_fault2_91 m_place2_92 m_trouble a_letters m_failed2_90 m_hasHouse a_r a_fresh a_st a_undone a_kept m_undos m_images a_from a_begin a_motor a_change a_startFrame a_changeFrame a_lostAt a_blackAt a_slips a_leftArc a_died a_arcs m_bestSum m_nearest m_nearestTown a_there a_backAt a_sorted a_parts m_seed1 m_darkNow d_tape d_letters2_160 ("slip") (iv_w hv_m_size (by decide) (by decide)) (iv_w iv_165 (by decide) (by decide)) (iv_w iv_166 (by decide) (by decide)) (iv_w iv_157 (by decide) (by decide)) hsr_170 hk_169) dX11_manLine_152 mw523 mw524 mw525 mw5 mw526 rfl 11 rfl rfl 0 _ rfl (by unfold yOk; decide) rfl (Nat.le_of_ble_eq_true rfl) (Nat.le_of_ble_eq_true rfl) (Nat.le_of_ble_eq_true rfl) (Nat.le_of_ble_eq_true rfl) (Nat.le_of_ble_eq_true rfl) rfl rfl (by decide) rfl (by decide) (by decide) ?_
              rintro r_180 w ⟨m_at2_171, m_end2_172, m_failed2_173, m_fault2_174, d_letters2_175, m_nameSize2_176, m_place2_177, m_token2_178, m_whole2_179, iv_181, iv_182, iv_183, hq_184, hq_185, hk_186, rfl⟩
              refine k_ws [(a_fresh, .inl (g.2.2.1, 311, .inl d_fresh2_21)), (h0, .inr (11, [.int m_thrown, .ref a_tape, .int m_taped, .int m_size, .int m_at2_171, .int m_end2_172, .int m_token2_178, .int m_whole2_179, .int m_nameSize2_176, .int m_fault2_174, .int m_place2_177, .int m_trouble, .ref a_letters, .int m_failed2_173, .int m_hasHouse, .ref a_r, .ref a_fresh, .ref a_st, .ref a_undone, .ref a_kept, .int m_undos, .int m_images, .ref a_from, .ref a_begin, .ref a_motor, .ref a_change, .ref a_startFrame, .ref a_changeFrame, .ref a_lostAt, .ref a_blackAt, .ref a_slips, .ref a_leftArc, .ref a_died, .ref a_arcs, .int m_bestSum, .int m_nearest, .int m_nearestTown, .ref a_there, .ref a_backAt, .ref a_sorted, .ref a_parts, .int m_seed1, .int m_darkNow])), (a_tape, .inl (g.2.2.1, 900, .inl d_tape)), (a_letters, .inl (g.2.2.1, 8, .inl d_letters2_175))] rfl ?_
              have e_187 : (0 : Int32).toInt = 0 := by decide
              have e_188 : (40 : Int32).toInt = 40 := by decide
              have iv_189 : IV r_180 0 40 := by have := (show IV 0 0 0 from (by decide)); have := (show IV 40 40 40 from (by decide)); rw [IV]; omega
              refine k_istore [(4, .int r_180), (3, .int r_93), (2, .int 3), (1, .int z_11), (0, .ref h0)] X dX11_manLine_155 (by decide) rfl ?_
              refine k_aload_n X dX11_manLine_157 4 rfl ?_
              refine k_get (ci := 11) X inlX11 rfl 13 (by decide) dX11_manLine_158 mw469 1 rfl rfl ?_
              refine k_if_eq 165 X dX11_manLine_161 (by decide) (fun h_190 => ?_) (fun h_190 => ?_)
              · skip
                have iv_191 : IV m_failed2_173 0 0 := iv_meet iv_182 (iv_e h_190 (show IV 0 0 0 from (by decide))) (by decide) (by decide)
                refine k_aload_n X dX11_manLine_165 4 rfl ?_
                refine k_get (ci := 11) X inlX11 rfl 16 (by decide) dX11_manLine_166 mw171 1 rfl rfl ?_
                refine k_iload_n X dX11_manLine_169 3 rfl ?_
                refine k_iload_n X dX11_manLine_170 2 rfl ?_
                refine k_iast [(a_fresh, .inl (g.2.2.1, 311, .inl (upd d_fresh2_21 (z_11 : Int32).toNatClampNeg 3))), (h0, .inr (11, [.int m_thrown, .ref a_tape, .int m_taped, .int m_size, .int m_at2_171, .int m_end2_172, .int m_token2_178, .int m_whole2_179, .int m_nameSize2_176, .int m_fault2_174, .int m_place2_177, .int m_trouble, .ref a_letters, .int m_failed2_173, .int m_hasHouse, .ref a_r, .ref a_fresh, .ref a_st, .ref a_undone, .ref a_kept, .int m_undos, .int m_images, .ref a_from, .ref a_begin, .ref a_motor, .ref a_change, .ref a_startFrame, .ref a_changeFrame, .ref a_lostAt, .ref a_blackAt, .ref a_slips, .ref a_leftArc, .ref a_died, .ref a_arcs, .int m_bestSum, .int m_nearest, .int m_nearestTown, .ref a_there, .ref a_backAt, .ref a_sorted, .ref a_parts, .int m_seed1, .int m_darkNow])), (a_tape, .inl (g.2.2.1, 900, .inl d_tape)), (a_letters, .inl (g.2.2.1, 8, .inl d_letters2_175))] X dX11_manLine_171 0 rfl (iv_in iv_13 (by decide) (by decide)) rfl ?_
                have i_194 : z_11.toInt = 114 + 3 * z_5.toInt := by omega
                refine (fun hg : ∀ fa_192 : Nat → Int32, fa_192 = upd d_fresh2_21 (z_11 : Int32).toNatClampNeg 3 → RInv fa_192 → K16 d_fresh2_21 fa_192 → Wk p l e _ s m args below meth c _ A g _ _ _ [(a_fresh, .inl (g.2.2.1, 311, .inl fa_192)), (h0, .inr (11, [.int m_thrown, .ref a_tape, .int m_taped, .int m_size, .int m_at2_171, .int m_end2_172, .int m_token2_178, .int m_whole2_179, .int m_nameSize2_176, .int m_fault2_174, .int m_place2_177, .int m_trouble, .ref a_letters, .int m_failed2_173, .int m_hasHouse, .ref a_r, .ref a_fresh, .ref a_st, .ref a_undone, .ref a_kept, .int m_undos, .int m_images, .ref a_from, .ref a_begin, .ref a_motor, .ref a_change, .ref a_startFrame, .ref a_changeFrame, .ref a_lostAt, .ref a_blackAt, .ref a_slips, .ref a_leftArc, .ref a_died, .ref a_arcs, .int m_bestSum, .int m_nearest, .int m_nearestTown, .ref a_there, .ref a_backAt, .ref a_sorted, .ref a_parts, .int m_seed1, .int m_darkNow])), (a_tape, .inl (g.2.2.1, 900, .inl d_tape)), (a_letters, .inl (g.2.2.1, 8, .inl d_letters2_175))] _ _ _ => hg _ rfl (w_fr_114_3 hp_31 i_194 (iv_w iv_7 (by decide) (by decide))) (k16_u (z := z_11) (by have := iv_13; omega))) (fun fa_192 eq_196 hR_193 hk_195 => ?_)
                have ek_197 : z_5 = fa_192 (11 : Int32).toNatClampNeg := ek_36.trans (hk_195 _ (by decide)).symm
                have hT_198 : TRI fa_192 := by have := iv_13; exact tri_z (z := z_11) eq_196 hT_37 hp_31 (by omega) (by omega) (by omega) (by omega) (by omega)
                refine k_aload_n X dX11_manLine_172 4 rfl ?_
                refine k_get (ci := 11) X inlX11 rfl 16 (by decide) dX11_manLine_173 mw171 1 rfl rfl ?_
                refine k_iload_n X dX11_manLine_176 3 rfl ?_
                refine k_iconst (v := 1) X dX11_manLine_177 (by decide) ?_
                refine k_iadd X dX11_manLine_178 ?_
                refine k_nm (fun z_199 ez_199 => ?_)
                have i_200 : z_199.toInt = z_11.toInt + 1 := in_add ez_199 iv_13 (show IV 1 1 1 from (by decide)) (by decide) (by decide)
                have iv_201 : IV z_199 115 124 := by have := iv_13; have := (show IV 1 1 1 from (by decide)); rw [IV, i_200]; omega
                refine k_iload_n X dX11_manLine_179 1 rfl ?_
                refine k_iast [(a_fresh, .inl (g.2.2.1, 311, .inl (upd fa_192 (z_199 : Int32).toNatClampNeg r_93))), (h0, .inr (11, [.int m_thrown, .ref a_tape, .int m_taped, .int m_size, .int m_at2_171, .int m_end2_172, .int m_token2_178, .int m_whole2_179, .int m_nameSize2_176, .int m_fault2_174, .int m_place2_177, .int m_trouble, .ref a_letters, .int m_failed2_173, .int m_hasHouse, .ref a_r, .ref a_fresh, .ref a_st, .ref a_undone, .ref a_kept, .int m_undos, .int m_images, .ref a_from, .ref a_begin, .ref a_motor, .ref a_change, .ref a_startFrame, .ref a_changeFrame, .ref a_lostAt, .ref a_blackAt, .ref a_slips, .ref a_leftArc, .ref a_died, .ref a_arcs, .int m_bestSum, .int m_nearest, .int m_nearestTown, .ref a_there, .ref a_backAt, .ref a_sorted, .ref a_parts, .int m_seed1, .int m_darkNow])), (a_tape, .inl (g.2.2.1, 900, .inl d_tape)), (a_letters, .inl (g.2.2.1, 8, .inl d_letters2_175))] X dX11_manLine_180 0 rfl (iv_in iv_201 (by decide) (by decide)) rfl ?_
                have i_204 : z_199.toInt = 115 + 3 * z_5.toInt := by omega
                refine (fun hg : ∀ fa_202 : Nat → Int32, fa_202 = upd fa_192 (z_199 : Int32).toNatClampNeg r_93 → RInv fa_202 → K16 fa_192 fa_202 → Wk p l e _ s m args below meth c _ A g _ _ _ [(a_fresh, .inl (g.2.2.1, 311, .inl fa_202)), (h0, .inr (11, [.int m_thrown, .ref a_tape, .int m_taped, .int m_size, .int m_at2_171, .int m_end2_172, .int m_token2_178, .int m_whole2_179, .int m_nameSize2_176, .int m_fault2_174, .int m_place2_177, .int m_trouble, .ref a_letters, .int m_failed2_173, .int m_hasHouse, .ref a_r, .ref a_fresh, .ref a_st, .ref a_undone, .ref a_kept, .int m_undos, .int m_images, .ref a_from, .ref a_begin, .ref a_motor, .ref a_change, .ref a_startFrame, .ref a_changeFrame, .ref a_lostAt, .ref a_blackAt, .ref a_slips, .ref a_leftArc, .ref a_died, .ref a_arcs, .int m_bestSum, .int m_nearest, .int m_nearestTown, .ref a_there, .ref a_backAt, .ref a_sorted, .ref a_parts, .int m_seed1, .int m_darkNow])), (a_tape, .inl (g.2.2.1, 900, .inl d_tape)), (a_letters, .inl (g.2.2.1, 8, .inl d_letters2_175))] _ _ _ => hg _ rfl (w_fr_115_3 hR_193 i_204 (iv_w iv_7 (by decide) (by decide))) (k16_u (z := z_199) (by have := iv_201; omega))) (fun fa_202 eq_206 hR_203 hk_205 => ?_)
                have ek_207 : z_5 = fa_202 (11 : Int32).toNatClampNeg := ek_197.trans (hk_205 _ (by decide)).symm
                have hT_208 : TRI fa_202 := by have := iv_201; exact tri_z (z := z_199) eq_206 hT_198 hR_193 (by omega) (by omega) (by omega) (by omega) (by omega)
                refine k_aload_n X dX11_manLine_181 4 rfl ?_
                refine k_get (ci := 11) X inlX11 rfl 16 (by decide) dX11_manLine_182 mw171 1 rfl rfl ?_
                refine k_iload_n X dX11_manLine_185 3 rfl ?_
                refine k_iconst (v := 2) X dX11_manLine_186 (by decide) ?_
                refine k_iadd X dX11_manLine_187 ?_
                refine k_nm (fun z_209 ez_209 => ?_)
                have i_210 : z_209.toInt = z_11.toInt + 2 := in_add ez_209 iv_13 (show IV 2 2 2 from (by decide)) (by decide) (by decide)
                have iv_211 : IV z_209 116 125 := by have := iv_13; have := (show IV 2 2 2 from (by decide)); rw [IV, i_210]; omega
                refine k_iload X dX11_manLine_188 0 rfl ?_
                refine k_iast [(a_fresh, .inl (g.2.2.1, 311, .inl (upd fa_202 (z_209 : Int32).toNatClampNeg r_180))), (h0, .inr (11, [.int m_thrown, .ref a_tape, .int m_taped, .int m_size, .int m_at2_171, .int m_end2_172, .int m_token2_178, .int m_whole2_179, .int m_nameSize2_176, .int m_fault2_174, .int m_place2_177, .int m_trouble, .ref a_letters, .int m_failed2_173, .int m_hasHouse, .ref a_r, .ref a_fresh, .ref a_st, .ref a_undone, .ref a_kept, .int m_undos, .int m_images, .ref a_from, .ref a_begin, .ref a_motor, .ref a_change, .ref a_startFrame, .ref a_changeFrame, .ref a_lostAt, .ref a_blackAt, .ref a_slips, .ref a_leftArc, .ref a_died, .ref a_arcs, .int m_bestSum, .int m_nearest, .int m_nearestTown, .ref a_there, .ref a_backAt, .ref a_sorted, .ref a_parts, .int m_seed1, .int m_darkNow])), (a_tape, .inl (g.2.2.1, 900, .inl d_tape)), (a_letters, .inl (g.2.2.1, 8, .inl d_letters2_175))] X dX11_manLine_190 0 rfl (iv_in iv_211 (by decide) (by decide)) rfl ?_
                have i_214 : z_209.toInt = 116 + 3 * z_5.toInt := by omega
                refine (fun hg : ∀ fa_212 : Nat → Int32, fa_212 = upd fa_202 (z_209 : Int32).toNatClampNeg r_180 → RInv fa_212 → K16 fa_202 fa_212 → Wk p l e _ s m args below meth c _ A g _ _ _ [(a_fresh, .inl (g.2.2.1, 311, .inl fa_212)), (h0, .inr (11, [.int m_thrown, .ref a_tape, .int m_taped, .int m_size, .int m_at2_171, .int m_end2_172, .int m_token2_178, .int m_whole2_179, .int m_nameSize2_176, .int m_fault2_174, .int m_place2_177, .int m_trouble, .ref a_letters, .int m_failed2_173, .int m_hasHouse, .ref a_r, .ref a_fresh, .ref a_st, .ref a_undone, .ref a_kept, .int m_undos, .int m_images, .ref a_from, .ref a_begin, .ref a_motor, .ref a_change, .ref a_startFrame, .ref a_changeFrame, .ref a_lostAt, .ref a_blackAt, .ref a_slips, .ref a_leftArc, .ref a_died, .ref a_arcs, .int m_bestSum, .int m_nearest, .int m_nearestTown, .ref a_there, .ref a_backAt, .ref a_sorted, .ref a_parts, .int m_seed1, .int m_darkNow])), (a_tape, .inl (g.2.2.1, 900, .inl d_tape)), (a_letters, .inl (g.2.2.1, 8, .inl d_letters2_175))] _ _ _ => hg _ rfl (w_rb_116_3 hR_203 i_214 (iv_w iv_7 (by decide) (by decide)) (iv_w iv_189 (by decide) (by decide))) (k16_u (z := z_209) (by have := iv_211; omega))) (fun fa_212 eq_216 hR_213 hk_215 => ?_)
                have ek_217 : z_5 = fa_212 (11 : Int32).toNatClampNeg := ek_207.trans (hk_215 _ (by decide)).symm
                have hT_218 : TRI fa_212 := by have := iv_211; exact tri_z (z := z_209) eq_216 hT_208 hR_203 (by omega) (by omega) (by omega) (by omega) (by omega)
                refine k_aload_n X dX11_manLine_191 4 rfl ?_
                refine k_get (ci := 11) X inlX11 rfl 16 (by decide) dX11_manLine_192 mw171 1 rfl rfl ?_
                refine k_bipush (v := 11) X dX11_manLine_195 (by decide) ?_
                refine k_dup2 X dX11_manLine_197 rfl rfl ?_
                refine k_iald X dX11_manLine_198 0 rfl (by unfold vp_in; decide) ?_
                refine k_to z_5 ek_217.symm ?_
                refine k_iconst (v := 1) X dX11_manLine_199 (by decide) ?_
                refine k_iadd X dX11_manLine_200 ?_
                refine k_nm (fun z_219 ez_219 => ?_)
                have i_220 : z_219.toInt = z_5.toInt + 1 := in_add ez_219 iv_7 (show IV 1 1 1 from (by decide)) (by decide) (by decide)
                have iv_221 : IV z_219 1 4 := by have := iv_7; have := (show IV 1 1 1 from (by decide)); rw [IV, i_220]; omega
                refine k_iast [(a_fresh, .inl (g.2.2.1, 311, .inl (upd fa_212 (11 : Int32).toNatClampNeg z_219))), (h0, .inr (11, [.int m_thrown, .ref a_tape, .int m_taped, .int m_size, .int m_at2_171, .int m_end2_172, .int m_token2_178, .int m_whole2_179, .int m_nameSize2_176, .int m_fault2_174, .int m_place2_177, .int m_trouble, .ref a_letters, .int m_failed2_173, .int m_hasHouse, .ref a_r, .ref a_fresh, .ref a_st, .ref a_undone, .ref a_kept, .int m_undos, .int m_images, .ref a_from, .ref a_begin, .ref a_motor, .ref a_change, .ref a_startFrame, .ref a_changeFrame, .ref a_lostAt, .ref a_blackAt, .ref a_slips, .ref a_leftArc, .ref a_died, .ref a_arcs, .int m_bestSum, .int m_nearest, .int m_nearestTown, .ref a_there, .ref a_backAt, .ref a_sorted, .ref a_parts, .int m_seed1, .int m_darkNow])), (a_tape, .inl (g.2.2.1, 900, .inl d_tape)), (a_letters, .inl (g.2.2.1, 8, .inl d_letters2_175))] X dX11_manLine_201 0 rfl (by unfold vp_in; decide) rfl ?_
                refine (fun hg : ∀ fa_222 : Nat → Int32, fa_222 = upd fa_212 (11 : Int32).toNatClampNeg z_219 → RInv fa_222 → Wk p l e _ s m args below meth c _ A g _ _ _ [(a_fresh, .inl (g.2.2.1, 311, .inl fa_222)), (h0, .inr (11, [.int m_thrown, .ref a_tape, .int m_taped, .int m_size, .int m_at2_171, .int m_end2_172, .int m_token2_178, .int m_whole2_179, .int m_nameSize2_176, .int m_fault2_174, .int m_place2_177, .int m_trouble, .ref a_letters, .int m_failed2_173, .int m_hasHouse, .ref a_r, .ref a_fresh, .ref a_st, .ref a_undone, .ref a_kept, .int m_undos, .int m_images, .ref a_from, .ref a_begin, .ref a_motor, .ref a_change, .ref a_startFrame, .ref a_changeFrame, .ref a_lostAt, .ref a_blackAt, .ref a_slips, .ref a_leftArc, .ref a_died, .ref a_arcs, .int m_bestSum, .int m_nearest, .int m_nearestTown, .ref a_there, .ref a_backAt, .ref a_sorted, .ref a_parts, .int m_seed1, .int m_darkNow])), (a_tape, .inl (g.2.2.1, 900, .inl d_tape)), (a_letters, .inl (g.2.2.1, 8, .inl d_letters2_175))] _ _ _ => hg _ rfl (w_rb_11 hR_213 (iv_w iv_221 (by decide) (by decide)))) (fun fa_222 eq_225 hR_223 => ?_)
                have hT_226 : TRI fa_222 := by rw [eq_225]; exact tri_n (z := 11) hT_218 hR_213 (by decide) (by decide) (by decide) (by decide)
                exact k_vret X hr dX11_manLine_202 (Nat.le_of_ble_eq_true rfl) (Nat.le_of_ble_eq_true rfl) [1, 2, 3, 0] (by decide) rfl rfl ⟨m_at2_171, m_end2_172, m_failed2_173, m_fault2_174, fa_222, d_letters2_175, m_nameSize2_176, m_place2_177, m_token2_178, m_whole2_179, (iv_w iv_181 (by decide) (by decide)), (iv_w iv_191 (by decide) (by decide)), (iv_w iv_183 (by decide) (by decide)), hR_223, (by omega), hT_226, hk_186, rfl⟩
              · skip
                have iv_227 : IV m_failed2_173 1 1 := iv_neL h_190 iv_182 (show IV 0 0 0 from (by decide)) (by decide)
                exact k_vret X hr dX11_manLine_164 (Nat.le_of_ble_eq_true rfl) (Nat.le_of_ble_eq_true rfl) [1, 2, 3, 0] (by decide) rfl rfl ⟨m_at2_171, m_end2_172, m_failed2_173, m_fault2_174, d_fresh2_21, d_letters2_175, m_nameSize2_176, m_place2_177, m_token2_178, m_whole2_179, (iv_w iv_181 (by decide) (by decide)), (iv_w iv_227 (by decide) (by decide)), (iv_w iv_183 (by decide) (by decide)), hp_31, (by omega), hT_37, hk_186, rfl⟩
        · skip
          have hc_228 := hk_53.resolve_left h_54
          have iv_229 : IV m_token2_25 2 2 := iv_meet (iv_any m_token2_25) hc_228.1 (by decide) (by decide)
          have hc_230 := hk_34 (iv_eq iv_229 (show IV 2 2 2 from (by decide)))
          have iv_231 : IV m_nameSize2_23 0 8 := iv_meet iv_30 hc_230 (by decide) (by decide)
          have iv_232 : IV m_failed2_19 0 0 := iv_meet iv_29 hc_228.2 (by decide) (by decide)
          have iv_233 : IV r_51 1 1 := iv_neL h_54 iv_52 (show IV 0 0 0 from (by decide)) (by decide)
          refine k_iconst (v := 2) X dX11_manLine_73 (by decide) ?_
          refine k_goto 92 X dX11_manLine_74 (by decide) ?_
          refine k_istore_n [(2, .int 2), (1, .int z_11), (0, .ref h0)] X dX11_manLine_92 (by decide) rfl ?_
          refine k_iload_n X dX11_manLine_93 0 rfl ?_
          refine k_if_ge 106 X dX11_manLine_94 (by decide) (fun _ => ?_) (fun h_234 => absurd (by decide) h_234)
          refine k_aload_n X dX11_manLine_106 2 rfl ?_
          refine k_get (ci := 11) X inlX11 rfl 13 (by decide) dX11_manLine_107 mw469 2 rfl rfl ?_
          refine k_if_eq 114 X dX11_manLine_110 (by decide) (fun h_235 => ?_) (fun h_235 => absurd (iv_eq iv_232 (show IV 0 0 0 from (by decide))) h_235)
          refine k_aload_n X dX11_manLine_114 2 rfl ?_
          refine k_callVV (n := 0) (As := []) (st := []) X [(h0, .inr (11, [.int m_thrown, .ref a_tape, .int m_taped, .int m_size, .int m_at2_17, .int m_end2_18, .int m_token2_25, .int m_whole2_26, .int m_nameSize2_23, .int m_fault2_20, .int m_place2_24, .int m_trouble, .ref a_letters, .int m_failed2_19, .int m_hasHouse, .ref a_r, .ref a_fresh, .ref a_st, .ref a_undone, .ref a_kept, .int m_undos, .int m_images, .ref a_from, .ref a_begin, .ref a_motor, .ref a_change, .ref a_startFrame, .ref a_changeFrame, .ref a_lostAt, .ref a_blackAt, .ref a_slips, .ref a_leftArc, .ref a_died, .ref a_arcs, .int m_bestSum, .int m_nearest, .int m_nearestTown, .ref a_there, .ref a_backAt, .ref a_sorted, .ref a_parts, .int m_seed1, .int m_darkNow])), (a_tape, .inl (g.2.2.1, 900, .inl d_tape)), (a_letters, .inl (g.2.2.1, 8, .inl d_letters2_22))] [(a_fresh, .inl (g.2.2.1, 311, .inl d_fresh2_21))] [2, 0, 3] [1] (m_next l g h0 m_thrown a_tape m_taped m_size m_at2_17 m_end2_18 m_token2_25 m_whole2_26 m_nameSize2_23 m_fault2_20 m_place2_24 m_trouble a_letters m_failed2_19 m_hasHouse a_r a_fresh a_st a_undone a_kept m_undos m_images a_from a_begin a_motor a_change a_startFrame a_changeFrame a_lostAt a_blackAt a_slips a_leftArc a_died a_arcs m_bestSum m_nearest m_nearestTown a_there a_backAt a_sorted a_parts m_seed1 m_darkNow d_tape d_letters2_22 (iv_w hv_m_size (by decide) (by decide)) (iv_w iv_28 (by decide) (by decide)) (iv_w iv_231 (by decide) (by decide))) dX11_manLine_115 mw489 mw490 mw491 mw5 mw492 rfl 11 rfl rfl 0 _ rfl (by unfold yOk; decide) rfl (Nat.le_of_ble_eq_true rfl) (Nat.le_of_ble_eq_true rfl) (Nat.le_of_ble_eq_true rfl) (Nat.le_of_ble_eq_true rfl) (Nat.le_of_ble_eq_true rfl) rfl rfl (by decide) rfl (by decide) (by decide) ?_
          rintro w ⟨m_at2_236, m_end2_237, d_letters2_238, m_nameSize2_239, m_token2_240, m_whole2_241, iv_243, iv_244, hq_245, hq_246, hk_247, rfl⟩
          refine k_ws [(a_fresh, .inl (g.2.2.1, 311, .inl d_fresh2_21)), (h0, .inr (11, [.int m_thrown, .ref a_tape, .int m_taped, .int m_size, .int m_at2_236, .int m_end2_237, .int m_token2_240, .int m_whole2_241, .int m_nameSize2_239, .int m_fault2_20, .int m_place2_24, .int m_trouble, .ref a_letters, .int m_failed2_19, .int m_hasHouse, .ref a_r, .ref a_fresh, .ref a_st, .ref a_undone, .ref a_kept, .int m_undos, .int m_images, .ref a_from, .ref a_begin, .ref a_motor, .ref a_change, .ref a_startFrame, .ref a_changeFrame, .ref a_lostAt, .ref a_blackAt, .ref a_slips, .ref a_leftArc, .ref a_died, .ref a_arcs, .int m_bestSum, .int m_nearest, .int m_nearestTown, .ref a_there, .ref a_backAt, .ref a_sorted, .ref a_parts, .int m_seed1, .int m_darkNow])), (a_tape, .inl (g.2.2.1, 900, .inl d_tape)), (a_letters, .inl (g.2.2.1, 8, .inl d_letters2_238))] rfl ?_
          refine k_iconst (v := 0) X dX11_manLine_118 (by decide) ?_
          refine k_istore_n [(3, .int 0), (2, .int 2), (1, .int z_11), (0, .ref h0)] X dX11_manLine_119 (by decide) rfl ?_
          refine k_iload_n X dX11_manLine_120 1 rfl ?_
          refine k_iconst (v := 3) X dX11_manLine_121 (by decide) ?_
          refine k_ic_ne 145 X dX11_manLine_122 (by decide) (fun _ => ?_) (fun h_248 => absurd h_248 (by decide))
          refine k_aload_n X dX11_manLine_145 3 rfl ?_
          refine k_ldcwS (tx := "slip") X dX11_manLine_146 (by decide +kernel) (fun sr_249 hsr_249 => ?_)
          refine k_iconst (v := 0) X dX11_manLine_149 (by decide) ?_
          refine k_bipush (v := 40) X dX11_manLine_150 (by decide) ?_
          refine k_callVI (n := 3) (As := [.ref sr_249, .int 0, .int 40]) (st := []) X [(h0, .inr (11, [.int m_thrown, .ref a_tape, .int m_taped, .int m_size, .int m_at2_236, .int m_end2_237, .int m_token2_240, .int m_whole2_241, .int m_nameSize2_239, .int m_fault2_20, .int m_place2_24, .int m_trouble, .ref a_letters, .int m_failed2_19, .int m_hasHouse, .ref a_r, .ref a_fresh, .ref a_st, .ref a_undone, .ref a_kept, .int m_undos, .int m_images, .ref a_from, .ref a_begin, .ref a_motor, .ref a_change, .ref a_startFrame, .ref a_changeFrame, .ref a_lostAt, .ref a_blackAt, .ref a_slips, .ref a_leftArc, .ref a_died, .ref a_arcs, .int m_bestSum, .int m_nearest, .int m_nearestTown, .ref a_there, .ref a_backAt, .ref a_sorted, .ref a_parts, .int m_seed1, .int m_darkNow])), (a_tape, .inl (g.2.2.1, 900, .inl d_tape)), (a_letters, .inl (g.2.2.1, 8, .inl d_letters2_238))] [(a_fresh, .inl (g.2.2.1, 311, .inl d_fresh2_21))] [1, 2, 3] [0] (m_after l g h0 sr_249 0 40 m_thrown a_tape m_taped m_size m_at2_236 m_end2_237 m_token2_240 m_whole2_241 m_nameSize2_239 m_fault2_20 m_place2_24 m_trouble a_letters m_failed2_19 m_hasHouse a_r a_fresh a_st a_undone a_kept m_undos m_images a_from a_begin a_motor a_change a_startFrame a_changeFrame a_lostAt a_blackAt a_slips a_leftArc a_died a_arcs m_bestSum m_nearest m_nearestTown a_there a_backAt a_sorted a_parts m_seed1 m_darkNow d_tape d_letters2_238 ("slip") (iv_w hv_m_size (by decide) (by decide)) (iv_w iv_243 (by decide) (by decide)) (iv_w iv_244 (by decide) (by decide)) (iv_w iv_232 (by decide) (by decide)) hsr_249 hk_247) dX11_manLine_152 mw523 mw524 mw525 mw5 mw526 rfl 11 rfl rfl 0 _ rfl (by unfold yOk; decide) rfl (Nat.le_of_ble_eq_true rfl) (Nat.le_of_ble_eq_true rfl) (Nat.le_of_ble_eq_true rfl) (Nat.le_of_ble_eq_true rfl) (Nat.le_of_ble_eq_true rfl) rfl rfl (by decide) rfl (by decide) (by decide) ?_
          rintro r_259 w ⟨m_at2_250, m_end2_251, m_failed2_252, m_fault2_253, d_letters2_254, m_nameSize2_255, m_place2_256, m_token2_257, m_whole2_258, iv_260, iv_261, iv_262, hq_263, hq_264, hk_265, rfl⟩
          refine k_ws [(a_fresh, .inl (g.2.2.1, 311, .inl d_fresh2_21)), (h0, .inr (11, [.int m_thrown, .ref a_tape, .int m_taped, .int m_size, .int m_at2_250, .int m_end2_251, .int m_token2_257, .int m_whole2_258, .int m_nameSize2_255, .int m_fault2_253, .int m_place2_256, .int m_trouble, .ref a_letters, .int m_failed2_252, .int m_hasHouse, .ref a_r, .ref a_fresh, .ref a_st, .ref a_undone, .ref a_kept, .int m_undos, .int m_images, .ref a_from, .ref a_begin, .ref a_motor, .ref a_change, .ref a_startFrame, .ref a_changeFrame, .ref a_lostAt, .ref a_blackAt, .ref a_slips, .ref a_leftArc, .ref a_died, .ref a_arcs, .int m_bestSum, .int m_nearest, .int m_nearestTown, .ref a_there, .ref a_backAt, .ref a_sorted, .ref a_parts, .int m_seed1, .int m_darkNow])), (a_tape, .inl (g.2.2.1, 900, .inl d_tape)), (a_letters, .inl (g.2.2.1, 8, .inl d_letters2_254))] rfl ?_
          have e_266 : (0 : Int32).toInt = 0 := by decide
          have e_267 : (40 : Int32).toInt = 40 := by decide
          have iv_268 : IV r_259 0 40 := by have := (show IV 0 0 0 from (by decide)); have := (show IV 40 40 40 from (by decide)); rw [IV]; omega
          refine k_istore [(4, .int r_259), (3, .int 0), (2, .int 2), (1, .int z_11), (0, .ref h0)] X dX11_manLine_155 (by decide) rfl ?_
          refine k_aload_n X dX11_manLine_157 4 rfl ?_
          refine k_get (ci := 11) X inlX11 rfl 13 (by decide) dX11_manLine_158 mw469 1 rfl rfl ?_
          refine k_if_eq 165 X dX11_manLine_161 (by decide) (fun h_269 => ?_) (fun h_269 => ?_)
          · skip
            have iv_270 : IV m_failed2_252 0 0 := iv_meet iv_261 (iv_e h_269 (show IV 0 0 0 from (by decide))) (by decide) (by decide)
            refine k_aload_n X dX11_manLine_165 4 rfl ?_
            refine k_get (ci := 11) X inlX11 rfl 16 (by decide) dX11_manLine_166 mw171 1 rfl rfl ?_
            refine k_iload_n X dX11_manLine_169 3 rfl ?_
            refine k_iload_n X dX11_manLine_170 2 rfl ?_
            refine k_iast [(a_fresh, .inl (g.2.2.1, 311, .inl (upd d_fresh2_21 (z_11 : Int32).toNatClampNeg 2))), (h0, .inr (11, [.int m_thrown, .ref a_tape, .int m_taped, .int m_size, .int m_at2_250, .int m_end2_251, .int m_token2_257, .int m_whole2_258, .int m_nameSize2_255, .int m_fault2_253, .int m_place2_256, .int m_trouble, .ref a_letters, .int m_failed2_252, .int m_hasHouse, .ref a_r, .ref a_fresh, .ref a_st, .ref a_undone, .ref a_kept, .int m_undos, .int m_images, .ref a_from, .ref a_begin, .ref a_motor, .ref a_change, .ref a_startFrame, .ref a_changeFrame, .ref a_lostAt, .ref a_blackAt, .ref a_slips, .ref a_leftArc, .ref a_died, .ref a_arcs, .int m_bestSum, .int m_nearest, .int m_nearestTown, .ref a_there, .ref a_backAt, .ref a_sorted, .ref a_parts, .int m_seed1, .int m_darkNow])), (a_tape, .inl (g.2.2.1, 900, .inl d_tape)), (a_letters, .inl (g.2.2.1, 8, .inl d_letters2_254))] X dX11_manLine_171 0 rfl (iv_in iv_13 (by decide) (by decide)) rfl ?_
            have i_273 : z_11.toInt = 114 + 3 * z_5.toInt := by omega
            refine (fun hg : ∀ fa_271 : Nat → Int32, fa_271 = upd d_fresh2_21 (z_11 : Int32).toNatClampNeg 2 → RInv fa_271 → K16 d_fresh2_21 fa_271 → Wk p l e _ s m args below meth c _ A g _ _ _ [(a_fresh, .inl (g.2.2.1, 311, .inl fa_271)), (h0, .inr (11, [.int m_thrown, .ref a_tape, .int m_taped, .int m_size, .int m_at2_250, .int m_end2_251, .int m_token2_257, .int m_whole2_258, .int m_nameSize2_255, .int m_fault2_253, .int m_place2_256, .int m_trouble, .ref a_letters, .int m_failed2_252, .int m_hasHouse, .ref a_r, .ref a_fresh, .ref a_st, .ref a_undone, .ref a_kept, .int m_undos, .int m_images, .ref a_from, .ref a_begin, .ref a_motor, .ref a_change, .ref a_startFrame, .ref a_changeFrame, .ref a_lostAt, .ref a_blackAt, .ref a_slips, .ref a_leftArc, .ref a_died, .ref a_arcs, .int m_bestSum, .int m_nearest, .int m_nearestTown, .ref a_there, .ref a_backAt, .ref a_sorted, .ref a_parts, .int m_seed1, .int m_darkNow])), (a_tape, .inl (g.2.2.1, 900, .inl d_tape)), (a_letters, .inl (g.2.2.1, 8, .inl d_letters2_254))] _ _ _ => hg _ rfl (w_fr_114_3 hp_31 i_273 (iv_w iv_7 (by decide) (by decide))) (k16_u (z := z_11) (by have := iv_13; omega))) (fun fa_271 eq_275 hR_272 hk_274 => ?_)
            have ek_276 : z_5 = fa_271 (11 : Int32).toNatClampNeg := ek_36.trans (hk_274 _ (by decide)).symm
            have hT_277 : TRI fa_271 := by have := iv_13; exact tri_z (z := z_11) eq_275 hT_37 hp_31 (by omega) (by omega) (by omega) (by omega) (by omega)
            refine k_aload_n X dX11_manLine_172 4 rfl ?_
            refine k_get (ci := 11) X inlX11 rfl 16 (by decide) dX11_manLine_173 mw171 1 rfl rfl ?_
            refine k_iload_n X dX11_manLine_176 3 rfl ?_
            refine k_iconst (v := 1) X dX11_manLine_177 (by decide) ?_
            refine k_iadd X dX11_manLine_178 ?_
            refine k_nm (fun z_278 ez_278 => ?_)
            have i_279 : z_278.toInt = z_11.toInt + 1 := in_add ez_278 iv_13 (show IV 1 1 1 from (by decide)) (by decide) (by decide)
            have iv_280 : IV z_278 115 124 := by have := iv_13; have := (show IV 1 1 1 from (by decide)); rw [IV, i_279]; omega
            refine k_iload_n X dX11_manLine_179 1 rfl ?_
            refine k_iast [(a_fresh, .inl (g.2.2.1, 311, .inl (upd fa_271 (z_278 : Int32).toNatClampNeg 0))), (h0, .inr (11, [.int m_thrown, .ref a_tape, .int m_taped, .int m_size, .int m_at2_250, .int m_end2_251, .int m_token2_257, .int m_whole2_258, .int m_nameSize2_255, .int m_fault2_253, .int m_place2_256, .int m_trouble, .ref a_letters, .int m_failed2_252, .int m_hasHouse, .ref a_r, .ref a_fresh, .ref a_st, .ref a_undone, .ref a_kept, .int m_undos, .int m_images, .ref a_from, .ref a_begin, .ref a_motor, .ref a_change, .ref a_startFrame, .ref a_changeFrame, .ref a_lostAt, .ref a_blackAt, .ref a_slips, .ref a_leftArc, .ref a_died, .ref a_arcs, .int m_bestSum, .int m_nearest, .int m_nearestTown, .ref a_there, .ref a_backAt, .ref a_sorted, .ref a_parts, .int m_seed1, .int m_darkNow])), (a_tape, .inl (g.2.2.1, 900, .inl d_tape)), (a_letters, .inl (g.2.2.1, 8, .inl d_letters2_254))] X dX11_manLine_180 0 rfl (iv_in iv_280 (by decide) (by decide)) rfl ?_
            refine (fun hg : ∀ fa_281 : Nat → Int32, fa_281 = upd fa_271 (z_278 : Int32).toNatClampNeg 0 → RInv fa_281 → K16 fa_271 fa_281 → Wk p l e _ s m args below meth c _ A g _ _ _ [(a_fresh, .inl (g.2.2.1, 311, .inl fa_281)), (h0, .inr (11, [.int m_thrown, .ref a_tape, .int m_taped, .int m_size, .int m_at2_250, .int m_end2_251, .int m_token2_257, .int m_whole2_258, .int m_nameSize2_255, .int m_fault2_253, .int m_place2_256, .int m_trouble, .ref a_letters, .int m_failed2_252, .int m_hasHouse, .ref a_r, .ref a_fresh, .ref a_st, .ref a_undone, .ref a_kept, .int m_undos, .int m_images, .ref a_from, .ref a_begin, .ref a_motor, .ref a_change, .ref a_startFrame, .ref a_changeFrame, .ref a_lostAt, .ref a_blackAt, .ref a_slips, .ref a_leftArc, .ref a_died, .ref a_arcs, .int m_bestSum, .int m_nearest, .int m_nearestTown, .ref a_there, .ref a_backAt, .ref a_sorted, .ref a_parts, .int m_seed1, .int m_darkNow])), (a_tape, .inl (g.2.2.1, 900, .inl d_tape)), (a_letters, .inl (g.2.2.1, 8, .inl d_letters2_254))] _ _ _ => hg _ rfl (w_zero hR_272) (k16_u (z := z_278) (by have := iv_280; omega))) (fun fa_281 eq_284 hR_282 hk_283 => ?_)
            have ek_285 : z_5 = fa_281 (11 : Int32).toNatClampNeg := ek_276.trans (hk_283 _ (by decide)).symm
            have hT_286 : TRI fa_281 := by have := iv_280; exact tri_z (z := z_278) eq_284 hT_277 hR_272 (by omega) (by omega) (by omega) (by omega) (by omega)
            refine k_aload_n X dX11_manLine_181 4 rfl ?_
            refine k_get (ci := 11) X inlX11 rfl 16 (by decide) dX11_manLine_182 mw171 1 rfl rfl ?_
            refine k_iload_n X dX11_manLine_185 3 rfl ?_
            refine k_iconst (v := 2) X dX11_manLine_186 (by decide) ?_
            refine k_iadd X dX11_manLine_187 ?_
            refine k_nm (fun z_287 ez_287 => ?_)
            have i_288 : z_287.toInt = z_11.toInt + 2 := in_add ez_287 iv_13 (show IV 2 2 2 from (by decide)) (by decide) (by decide)
            have iv_289 : IV z_287 116 125 := by have := iv_13; have := (show IV 2 2 2 from (by decide)); rw [IV, i_288]; omega
            refine k_iload X dX11_manLine_188 0 rfl ?_
            refine k_iast [(a_fresh, .inl (g.2.2.1, 311, .inl (upd fa_281 (z_287 : Int32).toNatClampNeg r_259))), (h0, .inr (11, [.int m_thrown, .ref a_tape, .int m_taped, .int m_size, .int m_at2_250, .int m_end2_251, .int m_token2_257, .int m_whole2_258, .int m_nameSize2_255, .int m_fault2_253, .int m_place2_256, .int m_trouble, .ref a_letters, .int m_failed2_252, .int m_hasHouse, .ref a_r, .ref a_fresh, .ref a_st, .ref a_undone, .ref a_kept, .int m_undos, .int m_images, .ref a_from, .ref a_begin, .ref a_motor, .ref a_change, .ref a_startFrame, .ref a_changeFrame, .ref a_lostAt, .ref a_blackAt, .ref a_slips, .ref a_leftArc, .ref a_died, .ref a_arcs, .int m_bestSum, .int m_nearest, .int m_nearestTown, .ref a_there, .ref a_backAt, .ref a_sorted, .ref a_parts, .int m_seed1, .int m_darkNow])), (a_tape, .inl (g.2.2.1, 900, .inl d_tape)), (a_letters, .inl (g.2.2.1, 8, .inl d_letters2_254))] X dX11_manLine_190 0 rfl (iv_in iv_289 (by decide) (by decide)) rfl ?_
            have i_292 : z_287.toInt = 116 + 3 * z_5.toInt := by omega
            refine (fun hg : ∀ fa_290 : Nat → Int32, fa_290 = upd fa_281 (z_287 : Int32).toNatClampNeg r_259 → RInv fa_290 → K16 fa_281 fa_290 → Wk p l e _ s m args below meth c _ A g _ _ _ [(a_fresh, .inl (g.2.2.1, 311, .inl fa_290)), (h0, .inr (11, [.int m_thrown, .ref a_tape, .int m_taped, .int m_size, .int m_at2_250, .int m_end2_251, .int m_token2_257, .int m_whole2_258, .int m_nameSize2_255, .int m_fault2_253, .int m_place2_256, .int m_trouble, .ref a_letters, .int m_failed2_252, .int m_hasHouse, .ref a_r, .ref a_fresh, .ref a_st, .ref a_undone, .ref a_kept, .int m_undos, .int m_images, .ref a_from, .ref a_begin, .ref a_motor, .ref a_change, .ref a_startFrame, .ref a_changeFrame, .ref a_lostAt, .ref a_blackAt, .ref a_slips, .ref a_leftArc, .ref a_died, .ref a_arcs, .int m_bestSum, .int m_nearest, .int m_nearestTown, .ref a_there, .ref a_backAt, .ref a_sorted, .ref a_parts, .int m_seed1, .int m_darkNow])), (a_tape, .inl (g.2.2.1, 900, .inl d_tape)), (a_letters, .inl (g.2.2.1, 8, .inl d_letters2_254))] _ _ _ => hg _ rfl (w_rb_116_3 hR_282 i_292 (iv_w iv_7 (by decide) (by decide)) (iv_w iv_268 (by decide) (by decide))) (k16_u (z := z_287) (by have := iv_289; omega))) (fun fa_290 eq_294 hR_291 hk_293 => ?_)
            have ek_295 : z_5 = fa_290 (11 : Int32).toNatClampNeg := ek_285.trans (hk_293 _ (by decide)).symm
            have hT_296 : TRI fa_290 := by have := iv_289; exact tri_z (z := z_287) eq_294 hT_286 hR_282 (by omega) (by omega) (by omega) (by omega) (by omega)
            refine k_aload_n X dX11_manLine_191 4 rfl ?_
            refine k_get (ci := 11) X inlX11 rfl 16 (by decide) dX11_manLine_192 mw171 1 rfl rfl ?_
            refine k_bipush (v := 11) X dX11_manLine_195 (by decide) ?_
            refine k_dup2 X dX11_manLine_197 rfl rfl ?_
            refine k_iald X dX11_manLine_198 0 rfl (by unfold vp_in; decide) ?_
            refine k_to z_5 ek_295.symm ?_
            refine k_iconst (v := 1) X dX11_manLine_199 (by decide) ?_
            refine k_iadd X dX11_manLine_200 ?_
            refine k_nm (fun z_297 ez_297 => ?_)
            have i_298 : z_297.toInt = z_5.toInt + 1 := in_add ez_297 iv_7 (show IV 1 1 1 from (by decide)) (by decide) (by decide)
            have iv_299 : IV z_297 1 4 := by have := iv_7; have := (show IV 1 1 1 from (by decide)); rw [IV, i_298]; omega
            refine k_iast [(a_fresh, .inl (g.2.2.1, 311, .inl (upd fa_290 (11 : Int32).toNatClampNeg z_297))), (h0, .inr (11, [.int m_thrown, .ref a_tape, .int m_taped, .int m_size, .int m_at2_250, .int m_end2_251, .int m_token2_257, .int m_whole2_258, .int m_nameSize2_255, .int m_fault2_253, .int m_place2_256, .int m_trouble, .ref a_letters, .int m_failed2_252, .int m_hasHouse, .ref a_r, .ref a_fresh, .ref a_st, .ref a_undone, .ref a_kept, .int m_undos, .int m_images, .ref a_from, .ref a_begin, .ref a_motor, .ref a_change, .ref a_startFrame, .ref a_changeFrame, .ref a_lostAt, .ref a_blackAt, .ref a_slips, .ref a_leftArc, .ref a_died, .ref a_arcs, .int m_bestSum, .int m_nearest, .int m_nearestTown, .ref a_there, .ref a_backAt, .ref a_sorted, .ref a_parts, .int m_seed1, .int m_darkNow])), (a_tape, .inl (g.2.2.1, 900, .inl d_tape)), (a_letters, .inl (g.2.2.1, 8, .inl d_letters2_254))] X dX11_manLine_201 0 rfl (by unfold vp_in; decide) rfl ?_
            refine (fun hg : ∀ fa_300 : Nat → Int32, fa_300 = upd fa_290 (11 : Int32).toNatClampNeg z_297 → RInv fa_300 → Wk p l e _ s m args below meth c _ A g _ _ _ [(a_fresh, .inl (g.2.2.1, 311, .inl fa_300)), (h0, .inr (11, [.int m_thrown, .ref a_tape, .int m_taped, .int m_size, .int m_at2_250, .int m_end2_251, .int m_token2_257, .int m_whole2_258, .int m_nameSize2_255, .int m_fault2_253, .int m_place2_256, .int m_trouble, .ref a_letters, .int m_failed2_252, .int m_hasHouse, .ref a_r, .ref a_fresh, .ref a_st, .ref a_undone, .ref a_kept, .int m_undos, .int m_images, .ref a_from, .ref a_begin, .ref a_motor, .ref a_change, .ref a_startFrame, .ref a_changeFrame, .ref a_lostAt, .ref a_blackAt, .ref a_slips, .ref a_leftArc, .ref a_died, .ref a_arcs, .int m_bestSum, .int m_nearest, .int m_nearestTown, .ref a_there, .ref a_backAt, .ref a_sorted, .ref a_parts, .int m_seed1, .int m_darkNow])), (a_tape, .inl (g.2.2.1, 900, .inl d_tape)), (a_letters, .inl (g.2.2.1, 8, .inl d_letters2_254))] _ _ _ => hg _ rfl (w_rb_11 hR_291 (iv_w iv_299 (by decide) (by decide)))) (fun fa_300 eq_303 hR_301 => ?_)
            have hT_304 : TRI fa_300 := by rw [eq_303]; exact tri_n (z := 11) hT_296 hR_291 (by decide) (by decide) (by decide) (by decide)
            exact k_vret X hr dX11_manLine_202 (Nat.le_of_ble_eq_true rfl) (Nat.le_of_ble_eq_true rfl) [1, 2, 3, 0] (by decide) rfl rfl ⟨m_at2_250, m_end2_251, m_failed2_252, m_fault2_253, fa_300, d_letters2_254, m_nameSize2_255, m_place2_256, m_token2_257, m_whole2_258, (iv_w iv_260 (by decide) (by decide)), (iv_w iv_270 (by decide) (by decide)), (iv_w iv_262 (by decide) (by decide)), hR_301, (by omega), hT_304, hk_265, rfl⟩
          · skip
            have iv_305 : IV m_failed2_252 1 1 := iv_neL h_269 iv_261 (show IV 0 0 0 from (by decide)) (by decide)
            exact k_vret X hr dX11_manLine_164 (Nat.le_of_ble_eq_true rfl) (Nat.le_of_ble_eq_true rfl) [1, 2, 3, 0] (by decide) rfl rfl ⟨m_at2_250, m_end2_251, m_failed2_252, m_fault2_253, d_fresh2_21, d_letters2_254, m_nameSize2_255, m_place2_256, m_token2_257, m_whole2_258, (iv_w iv_260 (by decide) (by decide)), (iv_w iv_305 (by decide) (by decide)), (iv_w iv_262 (by decide) (by decide)), hp_31, (by omega), hT_37, hk_265, rfl⟩
      · skip
        have hc_306 := hk_47.resolve_left h_48
        have iv_307 : IV m_token2_25 2 2 := iv_meet (iv_any m_token2_25) hc_306.1 (by decide) (by decide)
        have hc_308 := hk_34 (iv_eq iv_307 (show IV 2 2 2 from (by decide)))
        have iv_309 : IV m_nameSize2_23 0 8 := iv_meet iv_30 hc_308 (by decide) (by decide)
        have iv_310 : IV m_failed2_19 0 0 := iv_meet iv_29 hc_306.2 (by decide) (by decide)
        have iv_311 : IV r_45 1 1 := iv_neL h_48 iv_46 (show IV 0 0 0 from (by decide)) (by decide)
        refine k_iconst (v := 1) X dX11_manLine_59 (by decide) ?_
        refine k_goto 92 X dX11_manLine_60 (by decide) ?_
        refine k_istore_n [(2, .int 1), (1, .int z_11), (0, .ref h0)] X dX11_manLine_92 (by decide) rfl ?_
        refine k_iload_n X dX11_manLine_93 0 rfl ?_
        refine k_if_ge 106 X dX11_manLine_94 (by decide) (fun _ => ?_) (fun h_312 => absurd (by decide) h_312)
        refine k_aload_n X dX11_manLine_106 2 rfl ?_
        refine k_get (ci := 11) X inlX11 rfl 13 (by decide) dX11_manLine_107 mw469 2 rfl rfl ?_
        refine k_if_eq 114 X dX11_manLine_110 (by decide) (fun h_313 => ?_) (fun h_313 => absurd (iv_eq iv_310 (show IV 0 0 0 from (by decide))) h_313)
        refine k_aload_n X dX11_manLine_114 2 rfl ?_
        refine k_callVV (n := 0) (As := []) (st := []) X [(h0, .inr (11, [.int m_thrown, .ref a_tape, .int m_taped, .int m_size, .int m_at2_17, .int m_end2_18, .int m_token2_25, .int m_whole2_26, .int m_nameSize2_23, .int m_fault2_20, .int m_place2_24, .int m_trouble, .ref a_letters, .int m_failed2_19, .int m_hasHouse, .ref a_r, .ref a_fresh, .ref a_st, .ref a_undone, .ref a_kept, .int m_undos, .int m_images, .ref a_from, .ref a_begin, .ref a_motor, .ref a_change, .ref a_startFrame, .ref a_changeFrame, .ref a_lostAt, .ref a_blackAt, .ref a_slips, .ref a_leftArc, .ref a_died, .ref a_arcs, .int m_bestSum, .int m_nearest, .int m_nearestTown, .ref a_there, .ref a_backAt, .ref a_sorted, .ref a_parts, .int m_seed1, .int m_darkNow])), (a_tape, .inl (g.2.2.1, 900, .inl d_tape)), (a_letters, .inl (g.2.2.1, 8, .inl d_letters2_22))] [(a_fresh, .inl (g.2.2.1, 311, .inl d_fresh2_21))] [2, 0, 3] [1] (m_next l g h0 m_thrown a_tape m_taped m_size m_at2_17 m_end2_18 m_token2_25 m_whole2_26 m_nameSize2_23 m_fault2_20 m_place2_24 m_trouble a_letters m_failed2_19 m_hasHouse a_r a_fresh a_st a_undone a_kept m_undos m_images a_from a_begin a_motor a_change a_startFrame a_changeFrame a_lostAt a_blackAt a_slips a_leftArc a_died a_arcs m_bestSum m_nearest m_nearestTown a_there a_backAt a_sorted a_parts m_seed1 m_darkNow d_tape d_letters2_22 (iv_w hv_m_size (by decide) (by decide)) (iv_w iv_28 (by decide) (by decide)) (iv_w iv_309 (by decide) (by decide))) dX11_manLine_115 mw489 mw490 mw491 mw5 mw492 rfl 11 rfl rfl 0 _ rfl (by unfold yOk; decide) rfl (Nat.le_of_ble_eq_true rfl) (Nat.le_of_ble_eq_true rfl) (Nat.le_of_ble_eq_true rfl) (Nat.le_of_ble_eq_true rfl) (Nat.le_of_ble_eq_true rfl) rfl rfl (by decide) rfl (by decide) (by decide) ?_
        rintro w ⟨m_at2_314, m_end2_315, d_letters2_316, m_nameSize2_317, m_token2_318, m_whole2_319, iv_321, iv_322, hq_323, hq_324, hk_325, rfl⟩
        refine k_ws [(a_fresh, .inl (g.2.2.1, 311, .inl d_fresh2_21)), (h0, .inr (11, [.int m_thrown, .ref a_tape, .int m_taped, .int m_size, .int m_at2_314, .int m_end2_315, .int m_token2_318, .int m_whole2_319, .int m_nameSize2_317, .int m_fault2_20, .int m_place2_24, .int m_trouble, .ref a_letters, .int m_failed2_19, .int m_hasHouse, .ref a_r, .ref a_fresh, .ref a_st, .ref a_undone, .ref a_kept, .int m_undos, .int m_images, .ref a_from, .ref a_begin, .ref a_motor, .ref a_change, .ref a_startFrame, .ref a_changeFrame, .ref a_lostAt, .ref a_blackAt, .ref a_slips, .ref a_leftArc, .ref a_died, .ref a_arcs, .int m_bestSum, .int m_nearest, .int m_nearestTown, .ref a_there, .ref a_backAt, .ref a_sorted, .ref a_parts, .int m_seed1, .int m_darkNow])), (a_tape, .inl (g.2.2.1, 900, .inl d_tape)), (a_letters, .inl (g.2.2.1, 8, .inl d_letters2_316))] rfl ?_
        refine k_iconst (v := 0) X dX11_manLine_118 (by decide) ?_
        refine k_istore_n [(3, .int 0), (2, .int 1), (1, .int z_11), (0, .ref h0)] X dX11_manLine_119 (by decide) rfl ?_
        refine k_iload_n X dX11_manLine_120 1 rfl ?_
        refine k_iconst (v := 3) X dX11_manLine_121 (by decide) ?_
        refine k_ic_ne 145 X dX11_manLine_122 (by decide) (fun _ => ?_) (fun h_326 => absurd h_326 (by decide))
        refine k_aload_n X dX11_manLine_145 3 rfl ?_
        refine k_ldcwS (tx := "slip") X dX11_manLine_146 (by decide +kernel) (fun sr_327 hsr_327 => ?_)
        refine k_iconst (v := 0) X dX11_manLine_149 (by decide) ?_
        refine k_bipush (v := 40) X dX11_manLine_150 (by decide) ?_
        refine k_callVI (n := 3) (As := [.ref sr_327, .int 0, .int 40]) (st := []) X [(h0, .inr (11, [.int m_thrown, .ref a_tape, .int m_taped, .int m_size, .int m_at2_314, .int m_end2_315, .int m_token2_318, .int m_whole2_319, .int m_nameSize2_317, .int m_fault2_20, .int m_place2_24, .int m_trouble, .ref a_letters, .int m_failed2_19, .int m_hasHouse, .ref a_r, .ref a_fresh, .ref a_st, .ref a_undone, .ref a_kept, .int m_undos, .int m_images, .ref a_from, .ref a_begin, .ref a_motor, .ref a_change, .ref a_startFrame, .ref a_changeFrame, .ref a_lostAt, .ref a_blackAt, .ref a_slips, .ref a_leftArc, .ref a_died, .ref a_arcs, .int m_bestSum, .int m_nearest, .int m_nearestTown, .ref a_there, .ref a_backAt, .ref a_sorted, .ref a_parts, .int m_seed1, .int m_darkNow])), (a_tape, .inl (g.2.2.1, 900, .inl d_tape)), (a_letters, .inl (g.2.2.1, 8, .inl d_letters2_316))] [(a_fresh, .inl (g.2.2.1, 311, .inl d_fresh2_21))] [1, 2, 3] [0] (m_after l g h0 sr_327 0 40 m_thrown a_tape m_taped m_size m_at2_314 m_end2_315 m_token2_318 m_whole2_319 m_nameSize2_317 m_fault2_20 m_place2_24 m_trouble a_letters m_failed2_19 m_hasHouse a_r a_fresh a_st a_undone a_kept m_undos m_images a_from a_begin a_motor a_change a_startFrame a_changeFrame a_lostAt a_blackAt a_slips a_leftArc a_died a_arcs m_bestSum m_nearest m_nearestTown a_there a_backAt a_sorted a_parts m_seed1 m_darkNow d_tape d_letters2_316 ("slip") (iv_w hv_m_size (by decide) (by decide)) (iv_w iv_321 (by decide) (by decide)) (iv_w iv_322 (by decide) (by decide)) (iv_w iv_310 (by decide) (by decide)) hsr_327 hk_325) dX11_manLine_152 mw523 mw524 mw525 mw5 mw526 rfl 11 rfl rfl 0 _ rfl (by unfold yOk; decide) rfl (Nat.le_of_ble_eq_true rfl) (Nat.le_of_ble_eq_true rfl) (Nat.le_of_ble_eq_true rfl) (Nat.le_of_ble_eq_true rfl) (Nat.le_of_ble_eq_true rfl) rfl rfl (by decide) rfl (by decide) (by decide) ?_
        rintro r_337 w ⟨m_at2_328, m_end2_329, m_failed2_330, m_fault2_331, d_letters2_332, m_nameSize2_333, m_place2_334, m_token2_335, m_whole2_336, iv_338, iv_339, iv_340, hq_341, hq_342, hk_343, rfl⟩
        refine k_ws [(a_fresh, .inl (g.2.2.1, 311, .inl d_fresh2_21)), (h0, .inr (11, [.int m_thrown, .ref a_tape, .int m_taped, .int m_size, .int m_at2_328, .int m_end2_329, .int m_token2_335, .int m_whole2_336, .int m_nameSize2_333, .int m_fault2_331, .int m_place2_334, .int m_trouble, .ref a_letters, .int m_failed2_330, .int m_hasHouse, .ref a_r, .ref a_fresh, .ref a_st, .ref a_undone, .ref a_kept, .int m_undos, .int m_images, .ref a_from, .ref a_begin, .ref a_motor, .ref a_change, .ref a_startFrame, .ref a_changeFrame, .ref a_lostAt, .ref a_blackAt, .ref a_slips, .ref a_leftArc, .ref a_died, .ref a_arcs, .int m_bestSum, .int m_nearest, .int m_nearestTown, .ref a_there, .ref a_backAt, .ref a_sorted, .ref a_parts, .int m_seed1, .int m_darkNow])), (a_tape, .inl (g.2.2.1, 900, .inl d_tape)), (a_letters, .inl (g.2.2.1, 8, .inl d_letters2_332))] rfl ?_
        have e_344 : (0 : Int32).toInt = 0 := by decide
        have e_345 : (40 : Int32).toInt = 40 := by decide
        have iv_346 : IV r_337 0 40 := by have := (show IV 0 0 0 from (by decide)); have := (show IV 40 40 40 from (by decide)); rw [IV]; omega
        refine k_istore [(4, .int r_337), (3, .int 0), (2, .int 1), (1, .int z_11), (0, .ref h0)] X dX11_manLine_155 (by decide) rfl ?_
        refine k_aload_n X dX11_manLine_157 4 rfl ?_
        refine k_get (ci := 11) X inlX11 rfl 13 (by decide) dX11_manLine_158 mw469 1 rfl rfl ?_
        refine k_if_eq 165 X dX11_manLine_161 (by decide) (fun h_347 => ?_) (fun h_347 => ?_)
        · skip
          have iv_348 : IV m_failed2_330 0 0 := iv_meet iv_339 (iv_e h_347 (show IV 0 0 0 from (by decide))) (by decide) (by decide)
          refine k_aload_n X dX11_manLine_165 4 rfl ?_
          refine k_get (ci := 11) X inlX11 rfl 16 (by decide) dX11_manLine_166 mw171 1 rfl rfl ?_
          refine k_iload_n X dX11_manLine_169 3 rfl ?_
          refine k_iload_n X dX11_manLine_170 2 rfl ?_
          refine k_iast [(a_fresh, .inl (g.2.2.1, 311, .inl (upd d_fresh2_21 (z_11 : Int32).toNatClampNeg 1))), (h0, .inr (11, [.int m_thrown, .ref a_tape, .int m_taped, .int m_size, .int m_at2_328, .int m_end2_329, .int m_token2_335, .int m_whole2_336, .int m_nameSize2_333, .int m_fault2_331, .int m_place2_334, .int m_trouble, .ref a_letters, .int m_failed2_330, .int m_hasHouse, .ref a_r, .ref a_fresh, .ref a_st, .ref a_undone, .ref a_kept, .int m_undos, .int m_images, .ref a_from, .ref a_begin, .ref a_motor, .ref a_change, .ref a_startFrame, .ref a_changeFrame, .ref a_lostAt, .ref a_blackAt, .ref a_slips, .ref a_leftArc, .ref a_died, .ref a_arcs, .int m_bestSum, .int m_nearest, .int m_nearestTown, .ref a_there, .ref a_backAt, .ref a_sorted, .ref a_parts, .int m_seed1, .int m_darkNow])), (a_tape, .inl (g.2.2.1, 900, .inl d_tape)), (a_letters, .inl (g.2.2.1, 8, .inl d_letters2_332))] X dX11_manLine_171 0 rfl (iv_in iv_13 (by decide) (by decide)) rfl ?_
          have i_351 : z_11.toInt = 114 + 3 * z_5.toInt := by omega
          refine (fun hg : ∀ fa_349 : Nat → Int32, fa_349 = upd d_fresh2_21 (z_11 : Int32).toNatClampNeg 1 → RInv fa_349 → K16 d_fresh2_21 fa_349 → Wk p l e _ s m args below meth c _ A g _ _ _ [(a_fresh, .inl (g.2.2.1, 311, .inl fa_349)), (h0, .inr (11, [.int m_thrown, .ref a_tape, .int m_taped, .int m_size, .int m_at2_328, .int m_end2_329, .int m_token2_335, .int m_whole2_336, .int m_nameSize2_333, .int m_fault2_331, .int m_place2_334, .int m_trouble, .ref a_letters, .int m_failed2_330, .int m_hasHouse, .ref a_r, .ref a_fresh, .ref a_st, .ref a_undone, .ref a_kept, .int m_undos, .int m_images, .ref a_from, .ref a_begin, .ref a_motor, .ref a_change, .ref a_startFrame, .ref a_changeFrame, .ref a_lostAt, .ref a_blackAt, .ref a_slips, .ref a_leftArc, .ref a_died, .ref a_arcs, .int m_bestSum, .int m_nearest, .int m_nearestTown, .ref a_there, .ref a_backAt, .ref a_sorted, .ref a_parts, .int m_seed1, .int m_darkNow])), (a_tape, .inl (g.2.2.1, 900, .inl d_tape)), (a_letters, .inl (g.2.2.1, 8, .inl d_letters2_332))] _ _ _ => hg _ rfl (w_fr_114_3 hp_31 i_351 (iv_w iv_7 (by decide) (by decide))) (k16_u (z := z_11) (by have := iv_13; omega))) (fun fa_349 eq_353 hR_350 hk_352 => ?_)
          have ek_354 : z_5 = fa_349 (11 : Int32).toNatClampNeg := ek_36.trans (hk_352 _ (by decide)).symm
          have hT_355 : TRI fa_349 := by have := iv_13; exact tri_z (z := z_11) eq_353 hT_37 hp_31 (by omega) (by omega) (by omega) (by omega) (by omega)
          refine k_aload_n X dX11_manLine_172 4 rfl ?_
          refine k_get (ci := 11) X inlX11 rfl 16 (by decide) dX11_manLine_173 mw171 1 rfl rfl ?_
          refine k_iload_n X dX11_manLine_176 3 rfl ?_
          refine k_iconst (v := 1) X dX11_manLine_177 (by decide) ?_
          refine k_iadd X dX11_manLine_178 ?_
          refine k_nm (fun z_356 ez_356 => ?_)
          have i_357 : z_356.toInt = z_11.toInt + 1 := in_add ez_356 iv_13 (show IV 1 1 1 from (by decide)) (by decide) (by decide)
          have iv_358 : IV z_356 115 124 := by have := iv_13; have := (show IV 1 1 1 from (by decide)); rw [IV, i_357]; omega
          refine k_iload_n X dX11_manLine_179 1 rfl ?_
          refine k_iast [(a_fresh, .inl (g.2.2.1, 311, .inl (upd fa_349 (z_356 : Int32).toNatClampNeg 0))), (h0, .inr (11, [.int m_thrown, .ref a_tape, .int m_taped, .int m_size, .int m_at2_328, .int m_end2_329, .int m_token2_335, .int m_whole2_336, .int m_nameSize2_333, .int m_fault2_331, .int m_place2_334, .int m_trouble, .ref a_letters, .int m_failed2_330, .int m_hasHouse, .ref a_r, .ref a_fresh, .ref a_st, .ref a_undone, .ref a_kept, .int m_undos, .int m_images, .ref a_from, .ref a_begin, .ref a_motor, .ref a_change, .ref a_startFrame, .ref a_changeFrame, .ref a_lostAt, .ref a_blackAt, .ref a_slips, .ref a_leftArc, .ref a_died, .ref a_arcs, .int m_bestSum, .int m_nearest, .int m_nearestTown, .ref a_there, .ref a_backAt, .ref a_sorted, .ref a_parts, .int m_seed1, .int m_darkNow])), (a_tape, .inl (g.2.2.1, 900, .inl d_tape)), (a_letters, .inl (g.2.2.1, 8, .inl d_letters2_332))] X dX11_manLine_180 0 rfl (iv_in iv_358 (by decide) (by decide)) rfl ?_
          refine (fun hg : ∀ fa_359 : Nat → Int32, fa_359 = upd fa_349 (z_356 : Int32).toNatClampNeg 0 → RInv fa_359 → K16 fa_349 fa_359 → Wk p l e _ s m args below meth c _ A g _ _ _ [(a_fresh, .inl (g.2.2.1, 311, .inl fa_359)), (h0, .inr (11, [.int m_thrown, .ref a_tape, .int m_taped, .int m_size, .int m_at2_328, .int m_end2_329, .int m_token2_335, .int m_whole2_336, .int m_nameSize2_333, .int m_fault2_331, .int m_place2_334, .int m_trouble, .ref a_letters, .int m_failed2_330, .int m_hasHouse, .ref a_r, .ref a_fresh, .ref a_st, .ref a_undone, .ref a_kept, .int m_undos, .int m_images, .ref a_from, .ref a_begin, .ref a_motor, .ref a_change, .ref a_startFrame, .ref a_changeFrame, .ref a_lostAt, .ref a_blackAt, .ref a_slips, .ref a_leftArc, .ref a_died, .ref a_arcs, .int m_bestSum, .int m_nearest, .int m_nearestTown, .ref a_there, .ref a_backAt, .ref a_sorted, .ref a_parts, .int m_seed1, .int m_darkNow])), (a_tape, .inl (g.2.2.1, 900, .inl d_tape)), (a_letters, .inl (g.2.2.1, 8, .inl d_letters2_332))] _ _ _ => hg _ rfl (w_zero hR_350) (k16_u (z := z_356) (by have := iv_358; omega))) (fun fa_359 eq_362 hR_360 hk_361 => ?_)
          have ek_363 : z_5 = fa_359 (11 : Int32).toNatClampNeg := ek_354.trans (hk_361 _ (by decide)).symm
          have hT_364 : TRI fa_359 := by have := iv_358; exact tri_z (z := z_356) eq_362 hT_355 hR_350 (by omega) (by omega) (by omega) (by omega) (by omega)
          refine k_aload_n X dX11_manLine_181 4 rfl ?_
          refine k_get (ci := 11) X inlX11 rfl 16 (by decide) dX11_manLine_182 mw171 1 rfl rfl ?_
          refine k_iload_n X dX11_manLine_185 3 rfl ?_
          refine k_iconst (v := 2) X dX11_manLine_186 (by decide) ?_
          refine k_iadd X dX11_manLine_187 ?_
          refine k_nm (fun z_365 ez_365 => ?_)
          have i_366 : z_365.toInt = z_11.toInt + 2 := in_add ez_365 iv_13 (show IV 2 2 2 from (by decide)) (by decide) (by decide)
          have iv_367 : IV z_365 116 125 := by have := iv_13; have := (show IV 2 2 2 from (by decide)); rw [IV, i_366]; omega
          refine k_iload X dX11_manLine_188 0 rfl ?_
          refine k_iast [(a_fresh, .inl (g.2.2.1, 311, .inl (upd fa_359 (z_365 : Int32).toNatClampNeg r_337))), (h0, .inr (11, [.int m_thrown, .ref a_tape, .int m_taped, .int m_size, .int m_at2_328, .int m_end2_329, .int m_token2_335, .int m_whole2_336, .int m_nameSize2_333, .int m_fault2_331, .int m_place2_334, .int m_trouble, .ref a_letters, .int m_failed2_330, .int m_hasHouse, .ref a_r, .ref a_fresh, .ref a_st, .ref a_undone, .ref a_kept, .int m_undos, .int m_images, .ref a_from, .ref a_begin, .ref a_motor, .ref a_change, .ref a_startFrame, .ref a_changeFrame, .ref a_lostAt, .ref a_blackAt, .ref a_slips, .ref a_leftArc, .ref a_died, .ref a_arcs, .int m_bestSum, .int m_nearest, .int m_nearestTown, .ref a_there, .ref a_backAt, .ref a_sorted, .ref a_parts, .int m_seed1, .int m_darkNow])), (a_tape, .inl (g.2.2.1, 900, .inl d_tape)), (a_letters, .inl (g.2.2.1, 8, .inl d_letters2_332))] X dX11_manLine_190 0 rfl (iv_in iv_367 (by decide) (by decide)) rfl ?_
          have i_370 : z_365.toInt = 116 + 3 * z_5.toInt := by omega
          refine (fun hg : ∀ fa_368 : Nat → Int32, fa_368 = upd fa_359 (z_365 : Int32).toNatClampNeg r_337 → RInv fa_368 → K16 fa_359 fa_368 → Wk p l e _ s m args below meth c _ A g _ _ _ [(a_fresh, .inl (g.2.2.1, 311, .inl fa_368)), (h0, .inr (11, [.int m_thrown, .ref a_tape, .int m_taped, .int m_size, .int m_at2_328, .int m_end2_329, .int m_token2_335, .int m_whole2_336, .int m_nameSize2_333, .int m_fault2_331, .int m_place2_334, .int m_trouble, .ref a_letters, .int m_failed2_330, .int m_hasHouse, .ref a_r, .ref a_fresh, .ref a_st, .ref a_undone, .ref a_kept, .int m_undos, .int m_images, .ref a_from, .ref a_begin, .ref a_motor, .ref a_change, .ref a_startFrame, .ref a_changeFrame, .ref a_lostAt, .ref a_blackAt, .ref a_slips, .ref a_leftArc, .ref a_died, .ref a_arcs, .int m_bestSum, .int m_nearest, .int m_nearestTown, .ref a_there, .ref a_backAt, .ref a_sorted, .ref a_parts, .int m_seed1, .int m_darkNow])), (a_tape, .inl (g.2.2.1, 900, .inl d_tape)), (a_letters, .inl (g.2.2.1, 8, .inl d_letters2_332))] _ _ _ => hg _ rfl (w_rb_116_3 hR_360 i_370 (iv_w iv_7 (by decide) (by decide)) (iv_w iv_346 (by decide) (by decide))) (k16_u (z := z_365) (by have := iv_367; omega))) (fun fa_368 eq_372 hR_369 hk_371 => ?_)
          have ek_373 : z_5 = fa_368 (11 : Int32).toNatClampNeg := ek_363.trans (hk_371 _ (by decide)).symm
          have hT_374 : TRI fa_368 := by have := iv_367; exact tri_z (z := z_365) eq_372 hT_364 hR_360 (by omega) (by omega) (by omega) (by omega) (by omega)
          refine k_aload_n X dX11_manLine_191 4 rfl ?_
          refine k_get (ci := 11) X inlX11 rfl 16 (by decide) dX11_manLine_192 mw171 1 rfl rfl ?_
          refine k_bipush (v := 11) X dX11_manLine_195 (by decide) ?_
          refine k_dup2 X dX11_manLine_197 rfl rfl ?_
          refine k_iald X dX11_manLine_198 0 rfl (by unfold vp_in; decide) ?_
          refine k_to z_5 ek_373.symm ?_
          refine k_iconst (v := 1) X dX11_manLine_199 (by decide) ?_
          refine k_iadd X dX11_manLine_200 ?_
          refine k_nm (fun z_375 ez_375 => ?_)
          have i_376 : z_375.toInt = z_5.toInt + 1 := in_add ez_375 iv_7 (show IV 1 1 1 from (by decide)) (by decide) (by decide)
          have iv_377 : IV z_375 1 4 := by have := iv_7; have := (show IV 1 1 1 from (by decide)); rw [IV, i_376]; omega
          refine k_iast [(a_fresh, .inl (g.2.2.1, 311, .inl (upd fa_368 (11 : Int32).toNatClampNeg z_375))), (h0, .inr (11, [.int m_thrown, .ref a_tape, .int m_taped, .int m_size, .int m_at2_328, .int m_end2_329, .int m_token2_335, .int m_whole2_336, .int m_nameSize2_333, .int m_fault2_331, .int m_place2_334, .int m_trouble, .ref a_letters, .int m_failed2_330, .int m_hasHouse, .ref a_r, .ref a_fresh, .ref a_st, .ref a_undone, .ref a_kept, .int m_undos, .int m_images, .ref a_from, .ref a_begin, .ref a_motor, .ref a_change, .ref a_startFrame, .ref a_changeFrame, .ref a_lostAt, .ref a_blackAt, .ref a_slips, .ref a_leftArc, .ref a_died, .ref a_arcs, .int m_bestSum, .int m_nearest, .int m_nearestTown, .ref a_there, .ref a_backAt, .ref a_sorted, .ref a_parts, .int m_seed1, .int m_darkNow])), (a_tape, .inl (g.2.2.1, 900, .inl d_tape)), (a_letters, .inl (g.2.2.1, 8, .inl d_letters2_332))] X dX11_manLine_201 0 rfl (by unfold vp_in; decide) rfl ?_
          refine (fun hg : ∀ fa_378 : Nat → Int32, fa_378 = upd fa_368 (11 : Int32).toNatClampNeg z_375 → RInv fa_378 → Wk p l e _ s m args below meth c _ A g _ _ _ [(a_fresh, .inl (g.2.2.1, 311, .inl fa_378)), (h0, .inr (11, [.int m_thrown, .ref a_tape, .int m_taped, .int m_size, .int m_at2_328, .int m_end2_329, .int m_token2_335, .int m_whole2_336, .int m_nameSize2_333, .int m_fault2_331, .int m_place2_334, .int m_trouble, .ref a_letters, .int m_failed2_330, .int m_hasHouse, .ref a_r, .ref a_fresh, .ref a_st, .ref a_undone, .ref a_kept, .int m_undos, .int m_images, .ref a_from, .ref a_begin, .ref a_motor, .ref a_change, .ref a_startFrame, .ref a_changeFrame, .ref a_lostAt, .ref a_blackAt, .ref a_slips, .ref a_leftArc, .ref a_died, .ref a_arcs, .int m_bestSum, .int m_nearest, .int m_nearestTown, .ref a_there, .ref a_backAt, .ref a_sorted, .ref a_parts, .int m_seed1, .int m_darkNow])), (a_tape, .inl (g.2.2.1, 900, .inl d_tape)), (a_letters, .inl (g.2.2.1, 8, .inl d_letters2_332))] _ _ _ => hg _ rfl (w_rb_11 hR_369 (iv_w iv_377 (by decide) (by decide)))) (fun fa_378 eq_381 hR_379 => ?_)
          have hT_382 : TRI fa_378 := by rw [eq_381]; exact tri_n (z := 11) hT_374 hR_369 (by decide) (by decide) (by decide) (by decide)
          exact k_vret X hr dX11_manLine_202 (Nat.le_of_ble_eq_true rfl) (Nat.le_of_ble_eq_true rfl) [1, 2, 3, 0] (by decide) rfl rfl ⟨m_at2_328, m_end2_329, m_failed2_330, m_fault2_331, fa_378, d_letters2_332, m_nameSize2_333, m_place2_334, m_token2_335, m_whole2_336, (iv_w iv_338 (by decide) (by decide)), (iv_w iv_348 (by decide) (by decide)), (iv_w iv_340 (by decide) (by decide)), hR_379, (by omega), hT_382, hk_343, rfl⟩
        · skip
          have iv_383 : IV m_failed2_330 1 1 := iv_neL h_347 iv_339 (show IV 0 0 0 from (by decide)) (by decide)
          exact k_vret X hr dX11_manLine_164 (Nat.le_of_ble_eq_true rfl) (Nat.le_of_ble_eq_true rfl) [1, 2, 3, 0] (by decide) rfl rfl ⟨m_at2_328, m_end2_329, m_failed2_330, m_fault2_331, d_fresh2_21, d_letters2_332, m_nameSize2_333, m_place2_334, m_token2_335, m_whole2_336, (iv_w iv_338 (by decide) (by decide)), (iv_w iv_383 (by decide) (by decide)), (iv_w iv_340 (by decide) (by decide)), hp_31, (by omega), hT_37, hk_343, rfl⟩
    · skip
      have hc_384 := hk_41.resolve_left h_42
      have iv_385 : IV m_token2_25 2 2 := iv_meet (iv_any m_token2_25) hc_384.1 (by decide) (by decide)
      have hc_386 := hk_34 (iv_eq iv_385 (show IV 2 2 2 from (by decide)))
      have iv_387 : IV m_nameSize2_23 0 8 := iv_meet iv_30 hc_386 (by decide) (by decide)
      have iv_388 : IV m_failed2_19 0 0 := iv_meet iv_29 hc_384.2 (by decide) (by decide)
      have iv_389 : IV r_39 1 1 := iv_neL h_42 iv_40 (show IV 0 0 0 from (by decide)) (by decide)
      refine k_iconst (v := 0) X dX11_manLine_45 (by decide) ?_
      refine k_goto 92 X dX11_manLine_46 (by decide) ?_
      refine k_istore_n [(2, .int 0), (1, .int z_11), (0, .ref h0)] X dX11_manLine_92 (by decide) rfl ?_
      refine k_iload_n X dX11_manLine_93 0 rfl ?_
      refine k_if_ge 106 X dX11_manLine_94 (by decide) (fun _ => ?_) (fun h_390 => absurd (by decide) h_390)
      refine k_aload_n X dX11_manLine_106 2 rfl ?_
      refine k_get (ci := 11) X inlX11 rfl 13 (by decide) dX11_manLine_107 mw469 2 rfl rfl ?_
      refine k_if_eq 114 X dX11_manLine_110 (by decide) (fun h_391 => ?_) (fun h_391 => absurd (iv_eq iv_388 (show IV 0 0 0 from (by decide))) h_391)
      refine k_aload_n X dX11_manLine_114 2 rfl ?_
      refine k_callVV (n := 0) (As := []) (st := []) X [(h0, .inr (11, [.int m_thrown, .ref a_tape, .int m_taped, .int m_size, .int m_at2_17, .int m_end2_18, .int m_token2_25, .int m_whole2_26, .int m_nameSize2_23, .int m_fault2_20, .int m_place2_24, .int m_trouble, .ref a_letters, .int m_failed2_19, .int m_hasHouse, .ref a_r, .ref a_fresh, .ref a_st, .ref a_undone, .ref a_kept, .int m_undos, .int m_images, .ref a_from, .ref a_begin, .ref a_motor, .ref a_change, .ref a_startFrame, .ref a_changeFrame, .ref a_lostAt, .ref a_blackAt, .ref a_slips, .ref a_leftArc, .ref a_died, .ref a_arcs, .int m_bestSum, .int m_nearest, .int m_nearestTown, .ref a_there, .ref a_backAt, .ref a_sorted, .ref a_parts, .int m_seed1, .int m_darkNow])), (a_tape, .inl (g.2.2.1, 900, .inl d_tape)), (a_letters, .inl (g.2.2.1, 8, .inl d_letters2_22))] [(a_fresh, .inl (g.2.2.1, 311, .inl d_fresh2_21))] [2, 0, 3] [1] (m_next l g h0 m_thrown a_tape m_taped m_size m_at2_17 m_end2_18 m_token2_25 m_whole2_26 m_nameSize2_23 m_fault2_20 m_place2_24 m_trouble a_letters m_failed2_19 m_hasHouse a_r a_fresh a_st a_undone a_kept m_undos m_images a_from a_begin a_motor a_change a_startFrame a_changeFrame a_lostAt a_blackAt a_slips a_leftArc a_died a_arcs m_bestSum m_nearest m_nearestTown a_there a_backAt a_sorted a_parts m_seed1 m_darkNow d_tape d_letters2_22 (iv_w hv_m_size (by decide) (by decide)) (iv_w iv_28 (by decide) (by decide)) (iv_w iv_387 (by decide) (by decide))) dX11_manLine_115 mw489 mw490 mw491 mw5 mw492 rfl 11 rfl rfl 0 _ rfl (by unfold yOk; decide) rfl (Nat.le_of_ble_eq_true rfl) (Nat.le_of_ble_eq_true rfl) (Nat.le_of_ble_eq_true rfl) (Nat.le_of_ble_eq_true rfl) (Nat.le_of_ble_eq_true rfl) rfl rfl (by decide) rfl (by decide) (by decide) ?_
      rintro w ⟨m_at2_392, m_end2_393, d_letters2_394, m_nameSize2_395, m_token2_396, m_whole2_397, iv_399, iv_400, hq_401, hq_402, hk_403, rfl⟩
      refine k_ws [(a_fresh, .inl (g.2.2.1, 311, .inl d_fresh2_21)), (h0, .inr (11, [.int m_thrown, .ref a_tape, .int m_taped, .int m_size, .int m_at2_392, .int m_end2_393, .int m_token2_396, .int m_whole2_397, .int m_nameSize2_395, .int m_fault2_20, .int m_place2_24, .int m_trouble, .ref a_letters, .int m_failed2_19, .int m_hasHouse, .ref a_r, .ref a_fresh, .ref a_st, .ref a_undone, .ref a_kept, .int m_undos, .int m_images, .ref a_from, .ref a_begin, .ref a_motor, .ref a_change, .ref a_startFrame, .ref a_changeFrame, .ref a_lostAt, .ref a_blackAt, .ref a_slips, .ref a_leftArc, .ref a_died, .ref a_arcs, .int m_bestSum, .int m_nearest, .int m_nearestTown, .ref a_there, .ref a_backAt, .ref a_sorted, .ref a_parts, .int m_seed1, .int m_darkNow])), (a_tape, .inl (g.2.2.1, 900, .inl d_tape)), (a_letters, .inl (g.2.2.1, 8, .inl d_letters2_394))] rfl ?_
      refine k_iconst (v := 0) X dX11_manLine_118 (by decide) ?_
      refine k_istore_n [(3, .int 0), (2, .int 0), (1, .int z_11), (0, .ref h0)] X dX11_manLine_119 (by decide) rfl ?_
      refine k_iload_n X dX11_manLine_120 1 rfl ?_
      refine k_iconst (v := 3) X dX11_manLine_121 (by decide) ?_
      refine k_ic_ne 145 X dX11_manLine_122 (by decide) (fun _ => ?_) (fun h_404 => absurd h_404 (by decide))
      refine k_aload_n X dX11_manLine_145 3 rfl ?_
      refine k_ldcwS (tx := "slip") X dX11_manLine_146 (by decide +kernel) (fun sr_405 hsr_405 => ?_)
      refine k_iconst (v := 0) X dX11_manLine_149 (by decide) ?_
      refine k_bipush (v := 40) X dX11_manLine_150 (by decide) ?_
      refine k_callVI (n := 3) (As := [.ref sr_405, .int 0, .int 40]) (st := []) X [(h0, .inr (11, [.int m_thrown, .ref a_tape, .int m_taped, .int m_size, .int m_at2_392, .int m_end2_393, .int m_token2_396, .int m_whole2_397, .int m_nameSize2_395, .int m_fault2_20, .int m_place2_24, .int m_trouble, .ref a_letters, .int m_failed2_19, .int m_hasHouse, .ref a_r, .ref a_fresh, .ref a_st, .ref a_undone, .ref a_kept, .int m_undos, .int m_images, .ref a_from, .ref a_begin, .ref a_motor, .ref a_change, .ref a_startFrame, .ref a_changeFrame, .ref a_lostAt, .ref a_blackAt, .ref a_slips, .ref a_leftArc, .ref a_died, .ref a_arcs, .int m_bestSum, .int m_nearest, .int m_nearestTown, .ref a_there, .ref a_backAt, .ref a_sorted, .ref a_parts, .int m_seed1, .int m_darkNow])), (a_tape, .inl (g.2.2.1, 900, .inl d_tape)), (a_letters, .inl (g.2.2.1, 8, .inl d_letters2_394))] [(a_fresh, .inl (g.2.2.1, 311, .inl d_fresh2_21))] [1, 2, 3] [0] (m_after l g h0 sr_405 0 40 m_thrown a_tape m_taped m_size m_at2_392 m_end2_393 m_token2_396 m_whole2_397 m_nameSize2_395 m_fault2_20 m_place2_24 m_trouble a_letters m_failed2_19 m_hasHouse a_r a_fresh a_st a_undone a_kept m_undos m_images a_from a_begin a_motor a_change a_startFrame a_changeFrame a_lostAt a_blackAt a_slips a_leftArc a_died a_arcs m_bestSum m_nearest m_nearestTown a_there a_backAt a_sorted a_parts m_seed1 m_darkNow d_tape d_letters2_394 ("slip") (iv_w hv_m_size (by decide) (by decide)) (iv_w iv_399 (by decide) (by decide)) (iv_w iv_400 (by decide) (by decide)) (iv_w iv_388 (by decide) (by decide)) hsr_405 hk_403) dX11_manLine_152 mw523 mw524 mw525 mw5 mw526 rfl 11 rfl rfl 0 _ rfl (by unfold yOk; decide) rfl (Nat.le_of_ble_eq_true rfl) (Nat.le_of_ble_eq_true rfl) (Nat.le_of_ble_eq_true rfl) (Nat.le_of_ble_eq_true rfl) (Nat.le_of_ble_eq_true rfl) rfl rfl (by decide) rfl (by decide) (by decide) ?_
      rintro r_415 w ⟨m_at2_406, m_end2_407, m_failed2_408, m_fault2_409, d_letters2_410, m_nameSize2_411, m_place2_412, m_token2_413, m_whole2_414, iv_416, iv_417, iv_418, hq_419, hq_420, hk_421, rfl⟩
      refine k_ws [(a_fresh, .inl (g.2.2.1, 311, .inl d_fresh2_21)), (h0, .inr (11, [.int m_thrown, .ref a_tape, .int m_taped, .int m_size, .int m_at2_406, .int m_end2_407, .int m_token2_413, .int m_whole2_414, .int m_nameSize2_411, .int m_fault2_409, .int m_place2_412, .int m_trouble, .ref a_letters, .int m_failed2_408, .int m_hasHouse, .ref a_r, .ref a_fresh, .ref a_st, .ref a_undone, .ref a_kept, .int m_undos, .int m_images, .ref a_from, .ref a_begin, .ref a_motor, .ref a_change, .ref a_startFrame, .ref a_changeFrame, .ref a_lostAt, .ref a_blackAt, .ref a_slips, .ref a_leftArc, .ref a_died, .ref a_arcs, .int m_bestSum, .int m_nearest, .int m_nearestTown, .ref a_there, .ref a_backAt, .ref a_sorted, .ref a_parts, .int m_seed1, .int m_darkNow])), (a_tape, .inl (g.2.2.1, 900, .inl d_tape)), (a_letters, .inl (g.2.2.1, 8, .inl d_letters2_410))] rfl ?_
      have e_422 : (0 : Int32).toInt = 0 := by decide
      have e_423 : (40 : Int32).toInt = 40 := by decide
      have iv_424 : IV r_415 0 40 := by have := (show IV 0 0 0 from (by decide)); have := (show IV 40 40 40 from (by decide)); rw [IV]; omega
      refine k_istore [(4, .int r_415), (3, .int 0), (2, .int 0), (1, .int z_11), (0, .ref h0)] X dX11_manLine_155 (by decide) rfl ?_
      refine k_aload_n X dX11_manLine_157 4 rfl ?_
      refine k_get (ci := 11) X inlX11 rfl 13 (by decide) dX11_manLine_158 mw469 1 rfl rfl ?_
      refine k_if_eq 165 X dX11_manLine_161 (by decide) (fun h_425 => ?_) (fun h_425 => ?_)
      · skip
        have iv_426 : IV m_failed2_408 0 0 := iv_meet iv_417 (iv_e h_425 (show IV 0 0 0 from (by decide))) (by decide) (by decide)
        refine k_aload_n X dX11_manLine_165 4 rfl ?_
        refine k_get (ci := 11) X inlX11 rfl 16 (by decide) dX11_manLine_166 mw171 1 rfl rfl ?_
        refine k_iload_n X dX11_manLine_169 3 rfl ?_
        refine k_iload_n X dX11_manLine_170 2 rfl ?_
        refine k_iast [(a_fresh, .inl (g.2.2.1, 311, .inl (upd d_fresh2_21 (z_11 : Int32).toNatClampNeg 0))), (h0, .inr (11, [.int m_thrown, .ref a_tape, .int m_taped, .int m_size, .int m_at2_406, .int m_end2_407, .int m_token2_413, .int m_whole2_414, .int m_nameSize2_411, .int m_fault2_409, .int m_place2_412, .int m_trouble, .ref a_letters, .int m_failed2_408, .int m_hasHouse, .ref a_r, .ref a_fresh, .ref a_st, .ref a_undone, .ref a_kept, .int m_undos, .int m_images, .ref a_from, .ref a_begin, .ref a_motor, .ref a_change, .ref a_startFrame, .ref a_changeFrame, .ref a_lostAt, .ref a_blackAt, .ref a_slips, .ref a_leftArc, .ref a_died, .ref a_arcs, .int m_bestSum, .int m_nearest, .int m_nearestTown, .ref a_there, .ref a_backAt, .ref a_sorted, .ref a_parts, .int m_seed1, .int m_darkNow])), (a_tape, .inl (g.2.2.1, 900, .inl d_tape)), (a_letters, .inl (g.2.2.1, 8, .inl d_letters2_410))] X dX11_manLine_171 0 rfl (iv_in iv_13 (by decide) (by decide)) rfl ?_
        refine (fun hg : ∀ fa_427 : Nat → Int32, fa_427 = upd d_fresh2_21 (z_11 : Int32).toNatClampNeg 0 → RInv fa_427 → K16 d_fresh2_21 fa_427 → Wk p l e _ s m args below meth c _ A g _ _ _ [(a_fresh, .inl (g.2.2.1, 311, .inl fa_427)), (h0, .inr (11, [.int m_thrown, .ref a_tape, .int m_taped, .int m_size, .int m_at2_406, .int m_end2_407, .int m_token2_413, .int m_whole2_414, .int m_nameSize2_411, .int m_fault2_409, .int m_place2_412, .int m_trouble, .ref a_letters, .int m_failed2_408, .int m_hasHouse, .ref a_r, .ref a_fresh, .ref a_st, .ref a_undone, .ref a_kept, .int m_undos, .int m_images, .ref a_from, .ref a_begin, .ref a_motor, .ref a_change, .ref a_startFrame, .ref a_changeFrame, .ref a_lostAt, .ref a_blackAt, .ref a_slips, .ref a_leftArc, .ref a_died, .ref a_arcs, .int m_bestSum, .int m_nearest, .int m_nearestTown, .ref a_there, .ref a_backAt, .ref a_sorted, .ref a_parts, .int m_seed1, .int m_darkNow])), (a_tape, .inl (g.2.2.1, 900, .inl d_tape)), (a_letters, .inl (g.2.2.1, 8, .inl d_letters2_410))] _ _ _ => hg _ rfl (w_zero hp_31) (k16_u (z := z_11) (by have := iv_13; omega))) (fun fa_427 eq_430 hR_428 hk_429 => ?_)
        have ek_431 : z_5 = fa_427 (11 : Int32).toNatClampNeg := ek_36.trans (hk_429 _ (by decide)).symm
        have hT_432 : TRI fa_427 := by have := iv_13; exact tri_z (z := z_11) eq_430 hT_37 hp_31 (by omega) (by omega) (by omega) (by omega) (by omega)
        refine k_aload_n X dX11_manLine_172 4 rfl ?_
        refine k_get (ci := 11) X inlX11 rfl 16 (by decide) dX11_manLine_173 mw171 1 rfl rfl ?_
        refine k_iload_n X dX11_manLine_176 3 rfl ?_
        refine k_iconst (v := 1) X dX11_manLine_177 (by decide) ?_
        refine k_iadd X dX11_manLine_178 ?_
        refine k_nm (fun z_433 ez_433 => ?_)
        have i_434 : z_433.toInt = z_11.toInt + 1 := in_add ez_433 iv_13 (show IV 1 1 1 from (by decide)) (by decide) (by decide)
        have iv_435 : IV z_433 115 124 := by have := iv_13; have := (show IV 1 1 1 from (by decide)); rw [IV, i_434]; omega
        refine k_iload_n X dX11_manLine_179 1 rfl ?_
        refine k_iast [(a_fresh, .inl (g.2.2.1, 311, .inl (upd fa_427 (z_433 : Int32).toNatClampNeg 0))), (h0, .inr (11, [.int m_thrown, .ref a_tape, .int m_taped, .int m_size, .int m_at2_406, .int m_end2_407, .int m_token2_413, .int m_whole2_414, .int m_nameSize2_411, .int m_fault2_409, .int m_place2_412, .int m_trouble, .ref a_letters, .int m_failed2_408, .int m_hasHouse, .ref a_r, .ref a_fresh, .ref a_st, .ref a_undone, .ref a_kept, .int m_undos, .int m_images, .ref a_from, .ref a_begin, .ref a_motor, .ref a_change, .ref a_startFrame, .ref a_changeFrame, .ref a_lostAt, .ref a_blackAt, .ref a_slips, .ref a_leftArc, .ref a_died, .ref a_arcs, .int m_bestSum, .int m_nearest, .int m_nearestTown, .ref a_there, .ref a_backAt, .ref a_sorted, .ref a_parts, .int m_seed1, .int m_darkNow])), (a_tape, .inl (g.2.2.1, 900, .inl d_tape)), (a_letters, .inl (g.2.2.1, 8, .inl d_letters2_410))] X dX11_manLine_180 0 rfl (iv_in iv_435 (by decide) (by decide)) rfl ?_
        refine (fun hg : ∀ fa_436 : Nat → Int32, fa_436 = upd fa_427 (z_433 : Int32).toNatClampNeg 0 → RInv fa_436 → K16 fa_427 fa_436 → Wk p l e _ s m args below meth c _ A g _ _ _ [(a_fresh, .inl (g.2.2.1, 311, .inl fa_436)), (h0, .inr (11, [.int m_thrown, .ref a_tape, .int m_taped, .int m_size, .int m_at2_406, .int m_end2_407, .int m_token2_413, .int m_whole2_414, .int m_nameSize2_411, .int m_fault2_409, .int m_place2_412, .int m_trouble, .ref a_letters, .int m_failed2_408, .int m_hasHouse, .ref a_r, .ref a_fresh, .ref a_st, .ref a_undone, .ref a_kept, .int m_undos, .int m_images, .ref a_from, .ref a_begin, .ref a_motor, .ref a_change, .ref a_startFrame, .ref a_changeFrame, .ref a_lostAt, .ref a_blackAt, .ref a_slips, .ref a_leftArc, .ref a_died, .ref a_arcs, .int m_bestSum, .int m_nearest, .int m_nearestTown, .ref a_there, .ref a_backAt, .ref a_sorted, .ref a_parts, .int m_seed1, .int m_darkNow])), (a_tape, .inl (g.2.2.1, 900, .inl d_tape)), (a_letters, .inl (g.2.2.1, 8, .inl d_letters2_410))] _ _ _ => hg _ rfl (w_zero hR_428) (k16_u (z := z_433) (by have := iv_435; omega))) (fun fa_436 eq_439 hR_437 hk_438 => ?_)
        have ek_440 : z_5 = fa_436 (11 : Int32).toNatClampNeg := ek_431.trans (hk_438 _ (by decide)).symm
        have hT_441 : TRI fa_436 := by have := iv_435; exact tri_z (z := z_433) eq_439 hT_432 hR_428 (by omega) (by omega) (by omega) (by omega) (by omega)
        refine k_aload_n X dX11_manLine_181 4 rfl ?_
        refine k_get (ci := 11) X inlX11 rfl 16 (by decide) dX11_manLine_182 mw171 1 rfl rfl ?_
        refine k_iload_n X dX11_manLine_185 3 rfl ?_
        refine k_iconst (v := 2) X dX11_manLine_186 (by decide) ?_
        refine k_iadd X dX11_manLine_187 ?_
        refine k_nm (fun z_442 ez_442 => ?_)
        have i_443 : z_442.toInt = z_11.toInt + 2 := in_add ez_442 iv_13 (show IV 2 2 2 from (by decide)) (by decide) (by decide)
        have iv_444 : IV z_442 116 125 := by have := iv_13; have := (show IV 2 2 2 from (by decide)); rw [IV, i_443]; omega
        refine k_iload X dX11_manLine_188 0 rfl ?_
        refine k_iast [(a_fresh, .inl (g.2.2.1, 311, .inl (upd fa_436 (z_442 : Int32).toNatClampNeg r_415))), (h0, .inr (11, [.int m_thrown, .ref a_tape, .int m_taped, .int m_size, .int m_at2_406, .int m_end2_407, .int m_token2_413, .int m_whole2_414, .int m_nameSize2_411, .int m_fault2_409, .int m_place2_412, .int m_trouble, .ref a_letters, .int m_failed2_408, .int m_hasHouse, .ref a_r, .ref a_fresh, .ref a_st, .ref a_undone, .ref a_kept, .int m_undos, .int m_images, .ref a_from, .ref a_begin, .ref a_motor, .ref a_change, .ref a_startFrame, .ref a_changeFrame, .ref a_lostAt, .ref a_blackAt, .ref a_slips, .ref a_leftArc, .ref a_died, .ref a_arcs, .int m_bestSum, .int m_nearest, .int m_nearestTown, .ref a_there, .ref a_backAt, .ref a_sorted, .ref a_parts, .int m_seed1, .int m_darkNow])), (a_tape, .inl (g.2.2.1, 900, .inl d_tape)), (a_letters, .inl (g.2.2.1, 8, .inl d_letters2_410))] X dX11_manLine_190 0 rfl (iv_in iv_444 (by decide) (by decide)) rfl ?_
        have i_447 : z_442.toInt = 116 + 3 * z_5.toInt := by omega
        refine (fun hg : ∀ fa_445 : Nat → Int32, fa_445 = upd fa_436 (z_442 : Int32).toNatClampNeg r_415 → RInv fa_445 → K16 fa_436 fa_445 → Wk p l e _ s m args below meth c _ A g _ _ _ [(a_fresh, .inl (g.2.2.1, 311, .inl fa_445)), (h0, .inr (11, [.int m_thrown, .ref a_tape, .int m_taped, .int m_size, .int m_at2_406, .int m_end2_407, .int m_token2_413, .int m_whole2_414, .int m_nameSize2_411, .int m_fault2_409, .int m_place2_412, .int m_trouble, .ref a_letters, .int m_failed2_408, .int m_hasHouse, .ref a_r, .ref a_fresh, .ref a_st, .ref a_undone, .ref a_kept, .int m_undos, .int m_images, .ref a_from, .ref a_begin, .ref a_motor, .ref a_change, .ref a_startFrame, .ref a_changeFrame, .ref a_lostAt, .ref a_blackAt, .ref a_slips, .ref a_leftArc, .ref a_died, .ref a_arcs, .int m_bestSum, .int m_nearest, .int m_nearestTown, .ref a_there, .ref a_backAt, .ref a_sorted, .ref a_parts, .int m_seed1, .int m_darkNow])), (a_tape, .inl (g.2.2.1, 900, .inl d_tape)), (a_letters, .inl (g.2.2.1, 8, .inl d_letters2_410))] _ _ _ => hg _ rfl (w_rb_116_3 hR_437 i_447 (iv_w iv_7 (by decide) (by decide)) (iv_w iv_424 (by decide) (by decide))) (k16_u (z := z_442) (by have := iv_444; omega))) (fun fa_445 eq_449 hR_446 hk_448 => ?_)
        have ek_450 : z_5 = fa_445 (11 : Int32).toNatClampNeg := ek_440.trans (hk_448 _ (by decide)).symm
        have hT_451 : TRI fa_445 := by have := iv_444; exact tri_z (z := z_442) eq_449 hT_441 hR_437 (by omega) (by omega) (by omega) (by omega) (by omega)
        refine k_aload_n X dX11_manLine_191 4 rfl ?_
        refine k_get (ci := 11) X inlX11 rfl 16 (by decide) dX11_manLine_192 mw171 1 rfl rfl ?_
        refine k_bipush (v := 11) X dX11_manLine_195 (by decide) ?_
        refine k_dup2 X dX11_manLine_197 rfl rfl ?_
        refine k_iald X dX11_manLine_198 0 rfl (by unfold vp_in; decide) ?_
        refine k_to z_5 ek_450.symm ?_
        refine k_iconst (v := 1) X dX11_manLine_199 (by decide) ?_
        refine k_iadd X dX11_manLine_200 ?_
        refine k_nm (fun z_452 ez_452 => ?_)
        have i_453 : z_452.toInt = z_5.toInt + 1 := in_add ez_452 iv_7 (show IV 1 1 1 from (by decide)) (by decide) (by decide)
        have iv_454 : IV z_452 1 4 := by have := iv_7; have := (show IV 1 1 1 from (by decide)); rw [IV, i_453]; omega
        refine k_iast [(a_fresh, .inl (g.2.2.1, 311, .inl (upd fa_445 (11 : Int32).toNatClampNeg z_452))), (h0, .inr (11, [.int m_thrown, .ref a_tape, .int m_taped, .int m_size, .int m_at2_406, .int m_end2_407, .int m_token2_413, .int m_whole2_414, .int m_nameSize2_411, .int m_fault2_409, .int m_place2_412, .int m_trouble, .ref a_letters, .int m_failed2_408, .int m_hasHouse, .ref a_r, .ref a_fresh, .ref a_st, .ref a_undone, .ref a_kept, .int m_undos, .int m_images, .ref a_from, .ref a_begin, .ref a_motor, .ref a_change, .ref a_startFrame, .ref a_changeFrame, .ref a_lostAt, .ref a_blackAt, .ref a_slips, .ref a_leftArc, .ref a_died, .ref a_arcs, .int m_bestSum, .int m_nearest, .int m_nearestTown, .ref a_there, .ref a_backAt, .ref a_sorted, .ref a_parts, .int m_seed1, .int m_darkNow])), (a_tape, .inl (g.2.2.1, 900, .inl d_tape)), (a_letters, .inl (g.2.2.1, 8, .inl d_letters2_410))] X dX11_manLine_201 0 rfl (by unfold vp_in; decide) rfl ?_
        refine (fun hg : ∀ fa_455 : Nat → Int32, fa_455 = upd fa_445 (11 : Int32).toNatClampNeg z_452 → RInv fa_455 → Wk p l e _ s m args below meth c _ A g _ _ _ [(a_fresh, .inl (g.2.2.1, 311, .inl fa_455)), (h0, .inr (11, [.int m_thrown, .ref a_tape, .int m_taped, .int m_size, .int m_at2_406, .int m_end2_407, .int m_token2_413, .int m_whole2_414, .int m_nameSize2_411, .int m_fault2_409, .int m_place2_412, .int m_trouble, .ref a_letters, .int m_failed2_408, .int m_hasHouse, .ref a_r, .ref a_fresh, .ref a_st, .ref a_undone, .ref a_kept, .int m_undos, .int m_images, .ref a_from, .ref a_begin, .ref a_motor, .ref a_change, .ref a_startFrame, .ref a_changeFrame, .ref a_lostAt, .ref a_blackAt, .ref a_slips, .ref a_leftArc, .ref a_died, .ref a_arcs, .int m_bestSum, .int m_nearest, .int m_nearestTown, .ref a_there, .ref a_backAt, .ref a_sorted, .ref a_parts, .int m_seed1, .int m_darkNow])), (a_tape, .inl (g.2.2.1, 900, .inl d_tape)), (a_letters, .inl (g.2.2.1, 8, .inl d_letters2_410))] _ _ _ => hg _ rfl (w_rb_11 hR_446 (iv_w iv_454 (by decide) (by decide)))) (fun fa_455 eq_458 hR_456 => ?_)
        have hT_459 : TRI fa_455 := by rw [eq_458]; exact tri_n (z := 11) hT_451 hR_446 (by decide) (by decide) (by decide) (by decide)
        exact k_vret X hr dX11_manLine_202 (Nat.le_of_ble_eq_true rfl) (Nat.le_of_ble_eq_true rfl) [1, 2, 3, 0] (by decide) rfl rfl ⟨m_at2_406, m_end2_407, m_failed2_408, m_fault2_409, fa_455, d_letters2_410, m_nameSize2_411, m_place2_412, m_token2_413, m_whole2_414, (iv_w iv_416 (by decide) (by decide)), (iv_w iv_426 (by decide) (by decide)), (iv_w iv_418 (by decide) (by decide)), hR_456, (by omega), hT_459, hk_421, rfl⟩
      · skip
        have iv_460 : IV m_failed2_408 1 1 := iv_neL h_425 iv_417 (show IV 0 0 0 from (by decide)) (by decide)
        exact k_vret X hr dX11_manLine_164 (Nat.le_of_ble_eq_true rfl) (Nat.le_of_ble_eq_true rfl) [1, 2, 3, 0] (by decide) rfl rfl ⟨m_at2_406, m_end2_407, m_failed2_408, m_fault2_409, d_fresh2_21, d_letters2_410, m_nameSize2_411, m_place2_412, m_token2_413, m_whole2_414, (iv_w iv_416 (by decide) (by decide)), (iv_w iv_460 (by decide) (by decide)), (iv_w iv_418 (by decide) (by decide)), hp_31, (by omega), hT_37, hk_421, rfl⟩
  · skip
    have iv_461 : IV m_failed 1 1 := iv_neL h_1 hv_m_failed (show IV 0 0 0 from (by decide)) (by decide)
    exact k_vret X hr dX11_manLine_7 (Nat.le_of_ble_eq_true rfl) (Nat.le_of_ble_eq_true rfl) [0, 1, 2, 3] (by decide) rfl rfl ⟨m_at, m_end, m_failed, m_fault, d_fresh, d_letters, m_nameSize, m_place, m_token, m_whole, (iv_w hv_m_end (by decide) (by decide)), (iv_w iv_461 (by decide) (by decide)), (iv_w hv_m_nameSize (by decide) (by decide)), hp_d_fresh, (by omega), hr_0, hc_1, rfl⟩

theorem dX11_scratchLine_0 : decode cX11_scratchLine 0 = .ok (.aload_n 0, 1) := by decide +kernel
theorem dX11_scratchLine_1 : decode cX11_scratchLine 1 = .ok (.getfield 121, 3) := by decide +kernel
theorem dX11_scratchLine_4 : decode cX11_scratchLine 4 = .ok (.ifCond .eq 4, 3) := by decide +kernel
theorem dX11_scratchLine_7 : decode cX11_scratchLine 7 = .ok (.return_, 1) := by decide +kernel
theorem dX11_scratchLine_8 : decode cX11_scratchLine 8 = .ok (.sipush 155, 3) := by decide +kernel
theorem dX11_scratchLine_11 : decode cX11_scratchLine 11 = .ok (.iconst 2, 1) := by decide +kernel
theorem dX11_scratchLine_12 : decode cX11_scratchLine 12 = .ok (.aload_n 0, 1) := by decide +kernel
theorem dX11_scratchLine_13 : decode cX11_scratchLine 13 = .ok (.getfield 23, 3) := by decide +kernel
theorem dX11_scratchLine_16 : decode cX11_scratchLine 16 = .ok (.bipush 14, 2) := by decide +kernel
theorem dX11_scratchLine_18 : decode cX11_scratchLine 18 = .ok (.iaload, 1) := by decide +kernel
theorem dX11_scratchLine_19 : decode cX11_scratchLine 19 = .ok (.imul, 1) := by decide +kernel
theorem dX11_scratchLine_20 : decode cX11_scratchLine 20 = .ok (.iadd, 1) := by decide +kernel
theorem dX11_scratchLine_21 : decode cX11_scratchLine 21 = .ok (.istore_n 1, 1) := by decide +kernel
theorem dX11_scratchLine_22 : decode cX11_scratchLine 22 = .ok (.aload_n 0, 1) := by decide +kernel
theorem dX11_scratchLine_23 : decode cX11_scratchLine 23 = .ok (.getfield 23, 3) := by decide +kernel
theorem dX11_scratchLine_26 : decode cX11_scratchLine 26 = .ok (.iload_n 1, 1) := by decide +kernel
theorem dX11_scratchLine_27 : decode cX11_scratchLine 27 = .ok (.aload_n 0, 1) := by decide +kernel
theorem dX11_scratchLine_28 : decode cX11_scratchLine 28 = .ok (.invokevirtual 288, 3) := by decide +kernel
theorem dX11_scratchLine_31 : decode cX11_scratchLine 31 = .ok (.iastore, 1) := by decide +kernel
theorem dX11_scratchLine_32 : decode cX11_scratchLine 32 = .ok (.aload_n 0, 1) := by decide +kernel
theorem dX11_scratchLine_33 : decode cX11_scratchLine 33 = .ok (.getfield 121, 3) := by decide +kernel
theorem dX11_scratchLine_36 : decode cX11_scratchLine 36 = .ok (.ifCond .ne 21, 3) := by decide +kernel
theorem dX11_scratchLine_39 : decode cX11_scratchLine 39 = .ok (.aload_n 0, 1) := by decide +kernel
theorem dX11_scratchLine_40 : decode cX11_scratchLine 40 = .ok (.getfield 23, 3) := by decide +kernel
theorem dX11_scratchLine_43 : decode cX11_scratchLine 43 = .ok (.iload_n 1, 1) := by decide +kernel
theorem dX11_scratchLine_44 : decode cX11_scratchLine 44 = .ok (.iconst 1, 1) := by decide +kernel
theorem dX11_scratchLine_45 : decode cX11_scratchLine 45 = .ok (.iadd, 1) := by decide +kernel
theorem dX11_scratchLine_46 : decode cX11_scratchLine 46 = .ok (.aload_n 0, 1) := by decide +kernel
theorem dX11_scratchLine_47 : decode cX11_scratchLine 47 = .ok (.aload_n 0, 1) := by decide +kernel
theorem dX11_scratchLine_48 : decode cX11_scratchLine 48 = .ok (.getfield 23, 3) := by decide +kernel
theorem dX11_scratchLine_51 : decode cX11_scratchLine 51 = .ok (.iload_n 1, 1) := by decide +kernel
theorem dX11_scratchLine_52 : decode cX11_scratchLine 52 = .ok (.iaload, 1) := by decide +kernel
theorem dX11_scratchLine_53 : decode cX11_scratchLine 53 = .ok (.invokevirtual 291, 3) := by decide +kernel
theorem dX11_scratchLine_56 : decode cX11_scratchLine 56 = .ok (.iastore, 1) := by decide +kernel
theorem dX11_scratchLine_57 : decode cX11_scratchLine 57 = .ok (.aload_n 0, 1) := by decide +kernel
theorem dX11_scratchLine_58 : decode cX11_scratchLine 58 = .ok (.getfield 121, 3) := by decide +kernel
theorem dX11_scratchLine_61 : decode cX11_scratchLine 61 = .ok (.ifCond .ne 14, 3) := by decide +kernel
theorem dX11_scratchLine_64 : decode cX11_scratchLine 64 = .ok (.aload_n 0, 1) := by decide +kernel
theorem dX11_scratchLine_65 : decode cX11_scratchLine 65 = .ok (.getfield 23, 3) := by decide +kernel
theorem dX11_scratchLine_68 : decode cX11_scratchLine 68 = .ok (.bipush 14, 2) := by decide +kernel
theorem dX11_scratchLine_70 : decode cX11_scratchLine 70 = .ok (.dup2, 1) := by decide +kernel
theorem dX11_scratchLine_71 : decode cX11_scratchLine 71 = .ok (.iaload, 1) := by decide +kernel
theorem dX11_scratchLine_72 : decode cX11_scratchLine 72 = .ok (.iconst 1, 1) := by decide +kernel
theorem dX11_scratchLine_73 : decode cX11_scratchLine 73 = .ok (.iadd, 1) := by decide +kernel
theorem dX11_scratchLine_74 : decode cX11_scratchLine 74 = .ok (.iastore, 1) := by decide +kernel
theorem dX11_scratchLine_75 : decode cX11_scratchLine 75 = .ok (.return_, 1) := by decide +kernel
set_option maxHeartbeats 4000000 in
set_option maxRecDepth 100000 in
theorem m_scratchLine (l : Launch) (g : Gx) (h0 : Nat) (m_thrown : Int32) (a_tape : Nat) (m_taped : Int32) (m_size : Int32) (m_at : Int32) (m_end : Int32) (m_token : Int32) (m_whole : Int32) (m_nameSize : Int32) (m_fault : Int32) (m_place : Int32) (m_trouble : Int32) (a_letters : Nat) (m_failed : Int32) (m_hasHouse : Int32) (a_r : Nat) (a_fresh : Nat) (a_st : Nat) (a_undone : Nat) (a_kept : Nat) (m_undos : Int32) (m_images : Int32) (a_from : Nat) (a_begin : Nat) (a_motor : Nat) (a_change : Nat) (a_startFrame : Nat) (a_changeFrame : Nat) (a_lostAt : Nat) (a_blackAt : Nat) (a_slips : Nat) (a_leftArc : Nat) (a_died : Nat) (a_arcs : Nat) (m_bestSum : Int32) (m_nearest : Int32) (m_nearestTown : Int32) (a_there : Nat) (a_backAt : Nat) (a_sorted : Nat) (a_parts : Nat) (m_seed1 : Int32) (m_darkNow : Int32) (d_tape : Nat → Int32) (d_letters : Nat → Int32) (d_fresh : Nat → Int32) (hv_m_size : IV m_size 0 900) (hv_m_end : IV m_end 0 900) (hv_m_nameSize : IV m_nameSize 0 900) (hv_m_failed : IV m_failed 0 1) (hp_d_fresh : RInv d_fresh) (hr_0 : TRI d_fresh) (hc_0 : m_failed = 1 ∨ ((d_fresh 14).toInt ≤ 5)) (hc_1 : m_token = 2 → IV m_nameSize 0 8) : cV l g yX11_scratchLine cX11_scratchLine 2 8 173 0 0 [.ref h0] [(h0, .inr (11, [.int m_thrown, .ref a_tape, .int m_taped, .int m_size, .int m_at, .int m_end, .int m_token, .int m_whole, .int m_nameSize, .int m_fault, .int m_place, .int m_trouble, .ref a_letters, .int m_failed, .int m_hasHouse, .ref a_r, .ref a_fresh, .ref a_st, .ref a_undone, .ref a_kept, .int m_undos, .int m_images, .ref a_from, .ref a_begin, .ref a_motor, .ref a_change, .ref a_startFrame, .ref a_changeFrame, .ref a_lostAt, .ref a_blackAt, .ref a_slips, .ref a_leftArc, .ref a_died, .ref a_arcs, .int m_bestSum, .int m_nearest, .int m_nearestTown, .ref a_there, .ref a_backAt, .ref a_sorted, .ref a_parts, .int m_seed1, .int m_darkNow])), (a_tape, .inl (g.2.2.1, 900, .inl d_tape)), (a_letters, .inl (g.2.2.1, 8, .inl d_letters)), (a_fresh, .inl (g.2.2.1, 311, .inl d_fresh))] (fun w => ∃ (m_at2 : Int32) (m_end2 : Int32) (m_failed2 : Int32) (m_fault2 : Int32) (d_fresh2 : Nat → Int32) (d_letters2 : Nat → Int32) (m_nameSize2 : Int32) (m_place2 : Int32) (m_token2 : Int32) (m_whole2 : Int32), IV m_end2 0 900 ∧ IV m_failed2 0 1 ∧ IV m_nameSize2 0 900 ∧ RInv d_fresh2 ∧ (m_end.toInt ≤ m_end2.toInt) ∧ (TRI d_fresh2) ∧ (m_token2 = 2 → IV m_nameSize2 0 8) ∧ w = [(h0, .inr (11, [.int m_thrown, .ref a_tape, .int m_taped, .int m_size, .int m_at2, .int m_end2, .int m_token2, .int m_whole2, .int m_nameSize2, .int m_fault2, .int m_place2, .int m_trouble, .ref a_letters, .int m_failed2, .int m_hasHouse, .ref a_r, .ref a_fresh, .ref a_st, .ref a_undone, .ref a_kept, .int m_undos, .int m_images, .ref a_from, .ref a_begin, .ref a_motor, .ref a_change, .ref a_startFrame, .ref a_changeFrame, .ref a_lostAt, .ref a_blackAt, .ref a_slips, .ref a_leftArc, .ref a_died, .ref a_arcs, .int m_bestSum, .int m_nearest, .int m_nearestTown, .ref a_there, .ref a_backAt, .ref a_sorted, .ref a_parts, .int m_seed1, .int m_darkNow])), (a_tape, .inl (g.2.2.1, 900, .inl d_tape)), (a_letters, .inl (g.2.2.1, 8, .inl d_letters2)), (a_fresh, .inl (g.2.2.1, 311, .inl d_fresh2))]) := by
  refine cV.of (by decide) (Nat.le_of_ble_eq_true rfl) ?_
  intro p e s m args below meth c A X hr hi
  refine k_lveq [(0, .ref h0)] rfl ?_
  refine k_aload_n X dX11_scratchLine_0 0 rfl ?_
  refine k_get (ci := 11) X inlX11 rfl 13 (by decide) dX11_scratchLine_1 mw469 0 rfl rfl ?_
  refine k_if_eq 8 X dX11_scratchLine_4 (by decide) (fun h_1 => ?_) (fun h_1 => ?_)
  · skip
    have iv_2 : IV m_failed 0 0 := iv_meet hv_m_failed (iv_e h_1 (show IV 0 0 0 from (by decide))) (by decide) (by decide)
    have hc_3 := hc_0.resolve_left (fun q => iv_eqN q iv_2 (show IV 1 1 1 from (by decide)) (by decide))
    have j_4 : (d_fresh 14).toInt ≤ 5 := hc_3
    refine k_sipush (v := 155) X dX11_scratchLine_8 (by decide) ?_
    refine k_iconst (v := 2) X dX11_scratchLine_11 (by decide) ?_
    refine k_aload_n X dX11_scratchLine_12 0 rfl ?_
    refine k_get (ci := 11) X inlX11 rfl 16 (by decide) dX11_scratchLine_13 mw171 0 rfl rfl ?_
    refine k_bipush (v := 14) X dX11_scratchLine_16 (by decide) ?_
    refine k_iald X dX11_scratchLine_18 3 rfl (by unfold vp_in; decide) ?_
    refine k_nm (fun z_5 ez_5 => ?_)
    have i_6 : z_5.toInt = (d_fresh 14).toInt := by rw [ez_5]; rfl
    have iv_7 : IV z_5 0 5 := by have := rb_14 ez_5 hp_d_fresh; rw [IV]; omega
    refine k_imul X dX11_scratchLine_19 ?_
    refine k_nm (fun z_8 ez_8 => ?_)
    have i_9 : z_8.toInt = 2 * z_5.toInt := in_mul ez_8 (by decide) (by decide) iv_7 (by decide) (by decide)
    have iv_10 : IV z_8 0 10 := by have := (show IV 2 2 2 from (by decide)); have := iv_7; rw [IV, i_9]; omega
    refine k_iadd X dX11_scratchLine_20 ?_
    refine k_nm (fun z_11 ez_11 => ?_)
    have i_12 : z_11.toInt = 155 + z_8.toInt := in_add ez_11 (show IV 155 155 155 from (by decide)) iv_10 (by decide) (by decide)
    have iv_13 : IV z_11 155 165 := by have := (show IV 155 155 155 from (by decide)); have := iv_10; rw [IV, i_12]; omega
    refine k_istore_n [(1, .int z_11), (0, .ref h0)] X dX11_scratchLine_21 (by decide) rfl ?_
    refine k_aload_n X dX11_scratchLine_22 1 rfl ?_
    refine k_get (ci := 11) X inlX11 rfl 16 (by decide) dX11_scratchLine_23 mw171 0 rfl rfl ?_
    refine k_iload_n X dX11_scratchLine_26 0 rfl ?_
    refine k_aload_n X dX11_scratchLine_27 1 rfl ?_
    refine k_callVI (n := 0) (As := []) (st := [.int z_11, .ref a_fresh]) X [(h0, .inr (11, [.int m_thrown, .ref a_tape, .int m_taped, .int m_size, .int m_at, .int m_end, .int m_token, .int m_whole, .int m_nameSize, .int m_fault, .int m_place, .int m_trouble, .ref a_letters, .int m_failed, .int m_hasHouse, .ref a_r, .ref a_fresh, .ref a_st, .ref a_undone, .ref a_kept, .int m_undos, .int m_images, .ref a_from, .ref a_begin, .ref a_motor, .ref a_change, .ref a_startFrame, .ref a_changeFrame, .ref a_lostAt, .ref a_blackAt, .ref a_slips, .ref a_leftArc, .ref a_died, .ref a_arcs, .int m_bestSum, .int m_nearest, .int m_nearestTown, .ref a_there, .ref a_backAt, .ref a_sorted, .ref a_parts, .int m_seed1, .int m_darkNow])), (a_tape, .inl (g.2.2.1, 900, .inl d_tape)), (a_letters, .inl (g.2.2.1, 8, .inl d_letters)), (a_fresh, .inl (g.2.2.1, 311, .inl d_fresh))] [] [0, 1, 2, 3] [] (m_reelPassed l g h0 m_thrown a_tape m_taped m_size m_at m_end m_token m_whole m_nameSize m_fault m_place m_trouble a_letters m_failed m_hasHouse a_r a_fresh a_st a_undone a_kept m_undos m_images a_from a_begin a_motor a_change a_startFrame a_changeFrame a_lostAt a_blackAt a_slips a_leftArc a_died a_arcs m_bestSum m_nearest m_nearestTown a_there a_backAt a_sorted a_parts m_seed1 m_darkNow d_tape d_letters d_fresh (iv_w hv_m_size (by decide) (by decide)) (iv_w hv_m_end (by decide) (by decide)) (iv_w hv_m_nameSize (by decide) (by decide)) (iv_w iv_2 (by decide) (by decide)) hp_d_fresh hc_1) dX11_scratchLine_28 mw571 mw572 mw573 mw5 mw574 rfl 11 rfl rfl 0 _ rfl (by unfold yOk; decide) rfl (Nat.le_of_ble_eq_true rfl) (Nat.le_of_ble_eq_true rfl) (Nat.le_of_ble_eq_true rfl) (Nat.le_of_ble_eq_true rfl) (Nat.le_of_ble_eq_true rfl) rfl rfl (by decide) rfl (by decide) (by decide) ?_
    rintro r_23 w ⟨m_at2_14, m_end2_15, m_failed2_16, m_fault2_17, d_letters2_18, m_nameSize2_19, m_place2_20, m_token2_21, m_whole2_22, iv_24, iv_25, iv_26, iv_27, hq_28, hk_29, rfl⟩
    refine k_ws [(h0, .inr (11, [.int m_thrown, .ref a_tape, .int m_taped, .int m_size, .int m_at2_14, .int m_end2_15, .int m_token2_21, .int m_whole2_22, .int m_nameSize2_19, .int m_fault2_17, .int m_place2_20, .int m_trouble, .ref a_letters, .int m_failed2_16, .int m_hasHouse, .ref a_r, .ref a_fresh, .ref a_st, .ref a_undone, .ref a_kept, .int m_undos, .int m_images, .ref a_from, .ref a_begin, .ref a_motor, .ref a_change, .ref a_startFrame, .ref a_changeFrame, .ref a_lostAt, .ref a_blackAt, .ref a_slips, .ref a_leftArc, .ref a_died, .ref a_arcs, .int m_bestSum, .int m_nearest, .int m_nearestTown, .ref a_there, .ref a_backAt, .ref a_sorted, .ref a_parts, .int m_seed1, .int m_darkNow])), (a_tape, .inl (g.2.2.1, 900, .inl d_tape)), (a_letters, .inl (g.2.2.1, 8, .inl d_letters2_18)), (a_fresh, .inl (g.2.2.1, 311, .inl d_fresh))] rfl ?_
    refine k_iast [(h0, .inr (11, [.int m_thrown, .ref a_tape, .int m_taped, .int m_size, .int m_at2_14, .int m_end2_15, .int m_token2_21, .int m_whole2_22, .int m_nameSize2_19, .int m_fault2_17, .int m_place2_20, .int m_trouble, .ref a_letters, .int m_failed2_16, .int m_hasHouse, .ref a_r, .ref a_fresh, .ref a_st, .ref a_undone, .ref a_kept, .int m_undos, .int m_images, .ref a_from, .ref a_begin, .ref a_motor, .ref a_change, .ref a_startFrame, .ref a_changeFrame, .ref a_lostAt, .ref a_blackAt, .ref a_slips, .ref a_leftArc, .ref a_died, .ref a_arcs, .int m_bestSum, .int m_nearest, .int m_nearestTown, .ref a_there, .ref a_backAt, .ref a_sorted, .ref a_parts, .int m_seed1, .int m_darkNow])), (a_tape, .inl (g.2.2.1, 900, .inl d_tape)), (a_letters, .inl (g.2.2.1, 8, .inl d_letters2_18)), (a_fresh, .inl (g.2.2.1, 311, .inl (upd d_fresh (z_11 : Int32).toNatClampNeg r_23)))] X dX11_scratchLine_31 3 rfl (iv_in iv_13 (by decide) (by decide)) rfl ?_
    have i_32 : z_11.toInt = 155 + 2 * z_5.toInt := by omega
    refine (fun hg : ∀ fa_30 : Nat → Int32, fa_30 = upd d_fresh (z_11 : Int32).toNatClampNeg r_23 → RInv fa_30 → K16 d_fresh fa_30 → Wk p l e _ s m args below meth c _ A g _ _ _ [(h0, .inr (11, [.int m_thrown, .ref a_tape, .int m_taped, .int m_size, .int m_at2_14, .int m_end2_15, .int m_token2_21, .int m_whole2_22, .int m_nameSize2_19, .int m_fault2_17, .int m_place2_20, .int m_trouble, .ref a_letters, .int m_failed2_16, .int m_hasHouse, .ref a_r, .ref a_fresh, .ref a_st, .ref a_undone, .ref a_kept, .int m_undos, .int m_images, .ref a_from, .ref a_begin, .ref a_motor, .ref a_change, .ref a_startFrame, .ref a_changeFrame, .ref a_lostAt, .ref a_blackAt, .ref a_slips, .ref a_leftArc, .ref a_died, .ref a_arcs, .int m_bestSum, .int m_nearest, .int m_nearestTown, .ref a_there, .ref a_backAt, .ref a_sorted, .ref a_parts, .int m_seed1, .int m_darkNow])), (a_tape, .inl (g.2.2.1, 900, .inl d_tape)), (a_letters, .inl (g.2.2.1, 8, .inl d_letters2_18)), (a_fresh, .inl (g.2.2.1, 311, .inl fa_30))] _ _ _ => hg _ rfl (w_rb_155_2 hp_d_fresh i_32 (iv_w iv_7 (by decide) (by decide)) (iv_w iv_27 (by decide) (by decide))) (k16_u (z := z_11) (by have := iv_13; omega))) (fun fa_30 eq_34 hR_31 hk_33 => ?_)
    have ek_35 : z_5 = fa_30 (14 : Int32).toNatClampNeg := ez_5.trans (hk_33 _ (by decide)).symm
    have hT_36 : TRI fa_30 := by have := iv_13; exact tri_z (z := z_11) eq_34 hr_0 hp_d_fresh (by omega) (by omega) (by omega) (by omega) (by omega)
    refine k_aload_n X dX11_scratchLine_32 1 rfl ?_
    refine k_get (ci := 11) X inlX11 rfl 13 (by decide) dX11_scratchLine_33 mw469 0 rfl rfl ?_
    refine k_if_ne 57 X dX11_scratchLine_36 (by decide) (fun h_37 => ?_) (fun h_37 => ?_)
    · skip
      have iv_38 : IV m_failed2_16 1 1 := iv_neL h_37 iv_25 (show IV 0 0 0 from (by decide)) (by decide)
      refine k_aload_n X dX11_scratchLine_57 1 rfl ?_
      refine k_get (ci := 11) X inlX11 rfl 13 (by decide) dX11_scratchLine_58 mw469 0 rfl rfl ?_
      refine k_if_ne 75 X dX11_scratchLine_61 (by decide) (fun h_39 => ?_) (fun h_39 => (iv_eqN h_39 iv_38 (show IV 0 0 0 from (by decide)) (by decide)).elim)
      exact k_vret X hr dX11_scratchLine_75 (Nat.le_of_ble_eq_true rfl) (Nat.le_of_ble_eq_true rfl) [0, 1, 2, 3] (by decide) rfl rfl ⟨m_at2_14, m_end2_15, m_failed2_16, m_fault2_17, fa_30, d_letters2_18, m_nameSize2_19, m_place2_20, m_token2_21, m_whole2_22, (iv_w iv_24 (by decide) (by decide)), (iv_w iv_38 (by decide) (by decide)), (iv_w iv_26 (by decide) (by decide)), hR_31, (by omega), hT_36, hk_29, rfl⟩
    · skip
      have iv_40 : IV m_failed2_16 0 0 := iv_meet iv_25 (iv_e h_37 (show IV 0 0 0 from (by decide))) (by decide) (by decide)
      refine k_aload_n X dX11_scratchLine_39 1 rfl ?_
      refine k_get (ci := 11) X inlX11 rfl 16 (by decide) dX11_scratchLine_40 mw171 0 rfl rfl ?_
      refine k_iload_n X dX11_scratchLine_43 0 rfl ?_
      refine k_iconst (v := 1) X dX11_scratchLine_44 (by decide) ?_
      refine k_iadd X dX11_scratchLine_45 ?_
      refine k_nm (fun z_41 ez_41 => ?_)
      have i_42 : z_41.toInt = z_11.toInt + 1 := in_add ez_41 iv_13 (show IV 1 1 1 from (by decide)) (by decide) (by decide)
      have iv_43 : IV z_41 156 166 := by have := iv_13; have := (show IV 1 1 1 from (by decide)); rw [IV, i_42]; omega
      refine k_aload_n X dX11_scratchLine_46 1 rfl ?_
      refine k_aload_n X dX11_scratchLine_47 1 rfl ?_
      refine k_get (ci := 11) X inlX11 rfl 16 (by decide) dX11_scratchLine_48 mw171 0 rfl rfl ?_
      refine k_iload_n X dX11_scratchLine_51 0 rfl ?_
      refine k_iald X dX11_scratchLine_52 3 rfl (iv_in iv_13 (by decide) (by decide)) ?_
      refine k_nm (fun z_44 ez_44 => ?_)
      have i_45 : z_11.toInt = 155 + 2 * z_5.toInt := by omega
      have iv_46 : IV z_44 0 7 := rb_155_2 ez_44 hR_31 i_45 (iv_w iv_7 (by decide) (by decide))
      refine k_callVI (n := 1) (As := [.int z_44]) (st := [.int z_41, .ref a_fresh]) X [(h0, .inr (11, [.int m_thrown, .ref a_tape, .int m_taped, .int m_size, .int m_at2_14, .int m_end2_15, .int m_token2_21, .int m_whole2_22, .int m_nameSize2_19, .int m_fault2_17, .int m_place2_20, .int m_trouble, .ref a_letters, .int m_failed2_16, .int m_hasHouse, .ref a_r, .ref a_fresh, .ref a_st, .ref a_undone, .ref a_kept, .int m_undos, .int m_images, .ref a_from, .ref a_begin, .ref a_motor, .ref a_change, .ref a_startFrame, .ref a_changeFrame, .ref a_lostAt, .ref a_blackAt, .ref a_slips, .ref a_leftArc, .ref a_died, .ref a_arcs, .int m_bestSum, .int m_nearest, .int m_nearestTown, .ref a_there, .ref a_backAt, .ref a_sorted, .ref a_parts, .int m_seed1, .int m_darkNow])), (a_tape, .inl (g.2.2.1, 900, .inl d_tape)), (a_letters, .inl (g.2.2.1, 8, .inl d_letters2_18)), (a_fresh, .inl (g.2.2.1, 311, .inl fa_30))] [] [0, 1, 2, 3] [] (m_frameOf l g h0 z_44 m_thrown a_tape m_taped m_size m_at2_14 m_end2_15 m_token2_21 m_whole2_22 m_nameSize2_19 m_fault2_17 m_place2_20 m_trouble a_letters m_failed2_16 m_hasHouse a_r a_fresh a_st a_undone a_kept m_undos m_images a_from a_begin a_motor a_change a_startFrame a_changeFrame a_lostAt a_blackAt a_slips a_leftArc a_died a_arcs m_bestSum m_nearest m_nearestTown a_there a_backAt a_sorted a_parts m_seed1 m_darkNow d_tape d_letters2_18 fa_30 (iv_w iv_46 (by decide) (by decide)) (iv_w hv_m_size (by decide) (by decide)) (iv_w iv_24 (by decide) (by decide)) (iv_w iv_26 (by decide) (by decide)) (iv_w iv_40 (by decide) (by decide)) hR_31 hk_29) dX11_scratchLine_53 mw579 mw580 mw581 mw5 mw582 rfl 11 rfl rfl 0 _ rfl (by unfold yOk; decide) rfl (Nat.le_of_ble_eq_true rfl) (Nat.le_of_ble_eq_true rfl) (Nat.le_of_ble_eq_true rfl) (Nat.le_of_ble_eq_true rfl) (Nat.le_of_ble_eq_true rfl) rfl rfl (by decide) rfl (by decide) (by decide) ?_
      rintro r_56 w ⟨m_at2_47, m_end2_48, m_failed2_49, m_fault2_50, d_letters2_51, m_nameSize2_52, m_place2_53, m_token2_54, m_whole2_55, iv_57, iv_58, iv_59, hq_60, hk_61, rfl⟩
      refine k_ws [(h0, .inr (11, [.int m_thrown, .ref a_tape, .int m_taped, .int m_size, .int m_at2_47, .int m_end2_48, .int m_token2_54, .int m_whole2_55, .int m_nameSize2_52, .int m_fault2_50, .int m_place2_53, .int m_trouble, .ref a_letters, .int m_failed2_49, .int m_hasHouse, .ref a_r, .ref a_fresh, .ref a_st, .ref a_undone, .ref a_kept, .int m_undos, .int m_images, .ref a_from, .ref a_begin, .ref a_motor, .ref a_change, .ref a_startFrame, .ref a_changeFrame, .ref a_lostAt, .ref a_blackAt, .ref a_slips, .ref a_leftArc, .ref a_died, .ref a_arcs, .int m_bestSum, .int m_nearest, .int m_nearestTown, .ref a_there, .ref a_backAt, .ref a_sorted, .ref a_parts, .int m_seed1, .int m_darkNow])), (a_tape, .inl (g.2.2.1, 900, .inl d_tape)), (a_letters, .inl (g.2.2.1, 8, .inl d_letters2_51)), (a_fresh, .inl (g.2.2.1, 311, .inl fa_30))] rfl ?_
      refine k_iast [(h0, .inr (11, [.int m_thrown, .ref a_tape, .int m_taped, .int m_size, .int m_at2_47, .int m_end2_48, .int m_token2_54, .int m_whole2_55, .int m_nameSize2_52, .int m_fault2_50, .int m_place2_53, .int m_trouble, .ref a_letters, .int m_failed2_49, .int m_hasHouse, .ref a_r, .ref a_fresh, .ref a_st, .ref a_undone, .ref a_kept, .int m_undos, .int m_images, .ref a_from, .ref a_begin, .ref a_motor, .ref a_change, .ref a_startFrame, .ref a_changeFrame, .ref a_lostAt, .ref a_blackAt, .ref a_slips, .ref a_leftArc, .ref a_died, .ref a_arcs, .int m_bestSum, .int m_nearest, .int m_nearestTown, .ref a_there, .ref a_backAt, .ref a_sorted, .ref a_parts, .int m_seed1, .int m_darkNow])), (a_tape, .inl (g.2.2.1, 900, .inl d_tape)), (a_letters, .inl (g.2.2.1, 8, .inl d_letters2_51)), (a_fresh, .inl (g.2.2.1, 311, .inl (upd fa_30 (z_41 : Int32).toNatClampNeg r_56)))] X dX11_scratchLine_56 3 rfl (iv_in iv_43 (by decide) (by decide)) rfl ?_
      have i_64 : z_41.toInt = 156 + 2 * z_5.toInt := by omega
      refine (fun hg : ∀ fa_62 : Nat → Int32, fa_62 = upd fa_30 (z_41 : Int32).toNatClampNeg r_56 → RInv fa_62 → K16 fa_30 fa_62 → Wk p l e _ s m args below meth c _ A g _ _ _ [(h0, .inr (11, [.int m_thrown, .ref a_tape, .int m_taped, .int m_size, .int m_at2_47, .int m_end2_48, .int m_token2_54, .int m_whole2_55, .int m_nameSize2_52, .int m_fault2_50, .int m_place2_53, .int m_trouble, .ref a_letters, .int m_failed2_49, .int m_hasHouse, .ref a_r, .ref a_fresh, .ref a_st, .ref a_undone, .ref a_kept, .int m_undos, .int m_images, .ref a_from, .ref a_begin, .ref a_motor, .ref a_change, .ref a_startFrame, .ref a_changeFrame, .ref a_lostAt, .ref a_blackAt, .ref a_slips, .ref a_leftArc, .ref a_died, .ref a_arcs, .int m_bestSum, .int m_nearest, .int m_nearestTown, .ref a_there, .ref a_backAt, .ref a_sorted, .ref a_parts, .int m_seed1, .int m_darkNow])), (a_tape, .inl (g.2.2.1, 900, .inl d_tape)), (a_letters, .inl (g.2.2.1, 8, .inl d_letters2_51)), (a_fresh, .inl (g.2.2.1, 311, .inl fa_62))] _ _ _ => hg _ rfl (w_fr_156_2 hR_31 i_64 (iv_w iv_7 (by decide) (by decide))) (k16_u (z := z_41) (by have := iv_43; omega))) (fun fa_62 eq_66 hR_63 hk_65 => ?_)
      have ek_67 : z_5 = fa_62 (14 : Int32).toNatClampNeg := ek_35.trans (hk_65 _ (by decide)).symm
      have hT_68 : TRI fa_62 := by have := iv_43; exact tri_z (z := z_41) eq_66 hT_36 hR_31 (by omega) (by omega) (by omega) (by omega) (by omega)
      refine k_aload_n X dX11_scratchLine_57 1 rfl ?_
      refine k_get (ci := 11) X inlX11 rfl 13 (by decide) dX11_scratchLine_58 mw469 0 rfl rfl ?_
      refine k_if_ne 75 X dX11_scratchLine_61 (by decide) (fun h_69 => ?_) (fun h_69 => ?_)
      · skip
        have iv_70 : IV m_failed2_49 1 1 := iv_neL h_69 iv_58 (show IV 0 0 0 from (by decide)) (by decide)
        exact k_vret X hr dX11_scratchLine_75 (Nat.le_of_ble_eq_true rfl) (Nat.le_of_ble_eq_true rfl) [0, 1, 2, 3] (by decide) rfl rfl ⟨m_at2_47, m_end2_48, m_failed2_49, m_fault2_50, fa_62, d_letters2_51, m_nameSize2_52, m_place2_53, m_token2_54, m_whole2_55, (iv_w iv_57 (by decide) (by decide)), (iv_w iv_70 (by decide) (by decide)), (iv_w iv_59 (by decide) (by decide)), hR_63, (by omega), hT_68, hk_61, rfl⟩
      · skip
        have iv_71 : IV m_failed2_49 0 0 := iv_meet iv_58 (iv_e h_69 (show IV 0 0 0 from (by decide))) (by decide) (by decide)
        refine k_aload_n X dX11_scratchLine_64 1 rfl ?_
        refine k_get (ci := 11) X inlX11 rfl 16 (by decide) dX11_scratchLine_65 mw171 0 rfl rfl ?_
        refine k_bipush (v := 14) X dX11_scratchLine_68 (by decide) ?_
        refine k_dup2 X dX11_scratchLine_70 rfl rfl ?_
        refine k_iald X dX11_scratchLine_71 3 rfl (by unfold vp_in; decide) ?_
        refine k_to z_5 ek_67.symm ?_
        refine k_iconst (v := 1) X dX11_scratchLine_72 (by decide) ?_
        refine k_iadd X dX11_scratchLine_73 ?_
        refine k_nm (fun z_72 ez_72 => ?_)
        have i_73 : z_72.toInt = z_5.toInt + 1 := in_add ez_72 iv_7 (show IV 1 1 1 from (by decide)) (by decide) (by decide)
        have iv_74 : IV z_72 1 6 := by have := iv_7; have := (show IV 1 1 1 from (by decide)); rw [IV, i_73]; omega
        refine k_iast [(h0, .inr (11, [.int m_thrown, .ref a_tape, .int m_taped, .int m_size, .int m_at2_47, .int m_end2_48, .int m_token2_54, .int m_whole2_55, .int m_nameSize2_52, .int m_fault2_50, .int m_place2_53, .int m_trouble, .ref a_letters, .int m_failed2_49, .int m_hasHouse, .ref a_r, .ref a_fresh, .ref a_st, .ref a_undone, .ref a_kept, .int m_undos, .int m_images, .ref a_from, .ref a_begin, .ref a_motor, .ref a_change, .ref a_startFrame, .ref a_changeFrame, .ref a_lostAt, .ref a_blackAt, .ref a_slips, .ref a_leftArc, .ref a_died, .ref a_arcs, .int m_bestSum, .int m_nearest, .int m_nearestTown, .ref a_there, .ref a_backAt, .ref a_sorted, .ref a_parts, .int m_seed1, .int m_darkNow])), (a_tape, .inl (g.2.2.1, 900, .inl d_tape)), (a_letters, .inl (g.2.2.1, 8, .inl d_letters2_51)), (a_fresh, .inl (g.2.2.1, 311, .inl (upd fa_62 (14 : Int32).toNatClampNeg z_72)))] X dX11_scratchLine_74 3 rfl (by unfold vp_in; decide) rfl ?_
        refine (fun hg : ∀ fa_75 : Nat → Int32, fa_75 = upd fa_62 (14 : Int32).toNatClampNeg z_72 → RInv fa_75 → Wk p l e _ s m args below meth c _ A g _ _ _ [(h0, .inr (11, [.int m_thrown, .ref a_tape, .int m_taped, .int m_size, .int m_at2_47, .int m_end2_48, .int m_token2_54, .int m_whole2_55, .int m_nameSize2_52, .int m_fault2_50, .int m_place2_53, .int m_trouble, .ref a_letters, .int m_failed2_49, .int m_hasHouse, .ref a_r, .ref a_fresh, .ref a_st, .ref a_undone, .ref a_kept, .int m_undos, .int m_images, .ref a_from, .ref a_begin, .ref a_motor, .ref a_change, .ref a_startFrame, .ref a_changeFrame, .ref a_lostAt, .ref a_blackAt, .ref a_slips, .ref a_leftArc, .ref a_died, .ref a_arcs, .int m_bestSum, .int m_nearest, .int m_nearestTown, .ref a_there, .ref a_backAt, .ref a_sorted, .ref a_parts, .int m_seed1, .int m_darkNow])), (a_tape, .inl (g.2.2.1, 900, .inl d_tape)), (a_letters, .inl (g.2.2.1, 8, .inl d_letters2_51)), (a_fresh, .inl (g.2.2.1, 311, .inl fa_75))] _ _ _ => hg _ rfl (w_rb_14 hR_63 (iv_w iv_74 (by decide) (by decide)))) (fun fa_75 eq_78 hR_76 => ?_)
        have hT_79 : TRI fa_75 := by rw [eq_78]; exact tri_n (z := 14) hT_68 hR_63 (by decide) (by decide) (by decide) (by decide)
        exact k_vret X hr dX11_scratchLine_75 (Nat.le_of_ble_eq_true rfl) (Nat.le_of_ble_eq_true rfl) [0, 1, 2, 3] (by decide) rfl rfl ⟨m_at2_47, m_end2_48, m_failed2_49, m_fault2_50, fa_75, d_letters2_51, m_nameSize2_52, m_place2_53, m_token2_54, m_whole2_55, (iv_w iv_57 (by decide) (by decide)), (iv_w iv_71 (by decide) (by decide)), (iv_w iv_59 (by decide) (by decide)), hR_76, (by omega), hT_79, hk_61, rfl⟩
  · skip
    have iv_80 : IV m_failed 1 1 := iv_neL h_1 hv_m_failed (show IV 0 0 0 from (by decide)) (by decide)
    exact k_vret X hr dX11_scratchLine_7 (Nat.le_of_ble_eq_true rfl) (Nat.le_of_ble_eq_true rfl) [0, 1, 2, 3] (by decide) rfl rfl ⟨m_at, m_end, m_failed, m_fault, d_fresh, d_letters, m_nameSize, m_place, m_token, m_whole, (iv_w hv_m_end (by decide) (by decide)), (iv_w iv_80 (by decide) (by decide)), (iv_w hv_m_nameSize (by decide) (by decide)), hp_d_fresh, (by omega), hr_0, hc_1, rfl⟩
