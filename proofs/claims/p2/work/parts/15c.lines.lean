theorem dX11_houseLine_0 : decode cX11_houseLine 0 = .ok (.aload_n 0, 1) := by decide +kernel
theorem dX11_houseLine_1 : decode cX11_houseLine 1 = .ok (.getfield 23, 3) := by decide +kernel
theorem dX11_houseLine_4 : decode cX11_houseLine 4 = .ok (.bipush 15, 2) := by decide +kernel
theorem dX11_houseLine_6 : decode cX11_houseLine 6 = .ok (.iaload, 1) := by decide +kernel
theorem dX11_houseLine_7 : decode cX11_houseLine 7 = .ok (.iconst 1, 1) := by decide +kernel
theorem dX11_houseLine_8 : decode cX11_houseLine 8 = .ok (.if_icmp .ne 12, 3) := by decide +kernel
theorem dX11_houseLine_11 : decode cX11_houseLine 11 = .ok (.aload_n 0, 1) := by decide +kernel
theorem dX11_houseLine_12 : decode cX11_houseLine 12 = .ok (.iconst 3, 1) := by decide +kernel
theorem dX11_houseLine_13 : decode cX11_houseLine 13 = .ok (.aload_n 0, 1) := by decide +kernel
theorem dX11_houseLine_14 : decode cX11_houseLine 14 = .ok (.getfield 102, 3) := by decide +kernel
theorem dX11_houseLine_17 : decode cX11_houseLine 17 = .ok (.invokevirtual 148, 3) := by decide +kernel
theorem dX11_houseLine_20 : decode cX11_houseLine 20 = .ok (.aload_n 0, 1) := by decide +kernel
theorem dX11_houseLine_21 : decode cX11_houseLine 21 = .ok (.getfield 121, 3) := by decide +kernel
theorem dX11_houseLine_24 : decode cX11_houseLine 24 = .ok (.ifCond .eq 4, 3) := by decide +kernel
theorem dX11_houseLine_27 : decode cX11_houseLine 27 = .ok (.return_, 1) := by decide +kernel
theorem dX11_houseLine_28 : decode cX11_houseLine 28 = .ok (.aload_n 0, 1) := by decide +kernel
theorem dX11_houseLine_29 : decode cX11_houseLine 29 = .ok (.invokevirtual 142, 3) := by decide +kernel
theorem dX11_houseLine_32 : decode cX11_houseLine 32 = .ok (.aload_n 0, 1) := by decide +kernel
theorem dX11_houseLine_33 : decode cX11_houseLine 33 = .ok (.getfield 23, 3) := by decide +kernel
theorem dX11_houseLine_36 : decode cX11_houseLine 36 = .ok (.iconst 0, 1) := by decide +kernel
theorem dX11_houseLine_37 : decode cX11_houseLine 37 = .ok (.aload_n 0, 1) := by decide +kernel
theorem dX11_houseLine_38 : decode cX11_houseLine 38 = .ok (.ldc_w 262, 3) := by decide +kernel
theorem dX11_houseLine_41 : decode cX11_houseLine 41 = .ok (.iconst 1, 1) := by decide +kernel
theorem dX11_houseLine_42 : decode cX11_houseLine 42 = .ok (.bipush 50, 2) := by decide +kernel
theorem dX11_houseLine_44 : decode cX11_houseLine 44 = .ok (.invokevirtual 264, 3) := by decide +kernel
theorem dX11_houseLine_47 : decode cX11_houseLine 47 = .ok (.iastore, 1) := by decide +kernel
theorem dX11_houseLine_48 : decode cX11_houseLine 48 = .ok (.aload_n 0, 1) := by decide +kernel
theorem dX11_houseLine_49 : decode cX11_houseLine 49 = .ok (.getfield 23, 3) := by decide +kernel
theorem dX11_houseLine_52 : decode cX11_houseLine 52 = .ok (.iconst 1, 1) := by decide +kernel
theorem dX11_houseLine_53 : decode cX11_houseLine 53 = .ok (.aload_n 0, 1) := by decide +kernel
theorem dX11_houseLine_54 : decode cX11_houseLine 54 = .ok (.ldc_w 268, 3) := by decide +kernel
theorem dX11_houseLine_57 : decode cX11_houseLine 57 = .ok (.iconst 0, 1) := by decide +kernel
theorem dX11_houseLine_58 : decode cX11_houseLine 58 = .ok (.bipush 50, 2) := by decide +kernel
theorem dX11_houseLine_60 : decode cX11_houseLine 60 = .ok (.invokevirtual 264, 3) := by decide +kernel
theorem dX11_houseLine_63 : decode cX11_houseLine 63 = .ok (.iastore, 1) := by decide +kernel
theorem dX11_houseLine_64 : decode cX11_houseLine 64 = .ok (.aload_n 0, 1) := by decide +kernel
theorem dX11_houseLine_65 : decode cX11_houseLine 65 = .ok (.getfield 23, 3) := by decide +kernel
theorem dX11_houseLine_68 : decode cX11_houseLine 68 = .ok (.iconst 2, 1) := by decide +kernel
theorem dX11_houseLine_69 : decode cX11_houseLine 69 = .ok (.aload_n 0, 1) := by decide +kernel
theorem dX11_houseLine_70 : decode cX11_houseLine 70 = .ok (.ldc_w 269, 3) := by decide +kernel
theorem dX11_houseLine_73 : decode cX11_houseLine 73 = .ok (.iconst 0, 1) := by decide +kernel
theorem dX11_houseLine_74 : decode cX11_houseLine 74 = .ok (.bipush 99, 2) := by decide +kernel
theorem dX11_houseLine_76 : decode cX11_houseLine 76 = .ok (.invokevirtual 264, 3) := by decide +kernel
theorem dX11_houseLine_79 : decode cX11_houseLine 79 = .ok (.iastore, 1) := by decide +kernel
theorem dX11_houseLine_80 : decode cX11_houseLine 80 = .ok (.aload_n 0, 1) := by decide +kernel
theorem dX11_houseLine_81 : decode cX11_houseLine 81 = .ok (.getfield 23, 3) := by decide +kernel
theorem dX11_houseLine_84 : decode cX11_houseLine 84 = .ok (.iconst 3, 1) := by decide +kernel
theorem dX11_houseLine_85 : decode cX11_houseLine 85 = .ok (.aload_n 0, 1) := by decide +kernel
theorem dX11_houseLine_86 : decode cX11_houseLine 86 = .ok (.ldc_w 271, 3) := by decide +kernel
theorem dX11_houseLine_89 : decode cX11_houseLine 89 = .ok (.iconst 1, 1) := by decide +kernel
theorem dX11_houseLine_90 : decode cX11_houseLine 90 = .ok (.sipush 9999, 3) := by decide +kernel
theorem dX11_houseLine_93 : decode cX11_houseLine 93 = .ok (.invokevirtual 264, 3) := by decide +kernel
theorem dX11_houseLine_96 : decode cX11_houseLine 96 = .ok (.iastore, 1) := by decide +kernel
theorem dX11_houseLine_97 : decode cX11_houseLine 97 = .ok (.aload_n 0, 1) := by decide +kernel
theorem dX11_houseLine_98 : decode cX11_houseLine 98 = .ok (.getfield 23, 3) := by decide +kernel
theorem dX11_houseLine_101 : decode cX11_houseLine 101 = .ok (.iconst 4, 1) := by decide +kernel
theorem dX11_houseLine_102 : decode cX11_houseLine 102 = .ok (.aload_n 0, 1) := by decide +kernel
theorem dX11_houseLine_103 : decode cX11_houseLine 103 = .ok (.ldc_w 273, 3) := by decide +kernel
theorem dX11_houseLine_106 : decode cX11_houseLine 106 = .ok (.iconst 0, 1) := by decide +kernel
theorem dX11_houseLine_107 : decode cX11_houseLine 107 = .ok (.sipush 999, 3) := by decide +kernel
theorem dX11_houseLine_110 : decode cX11_houseLine 110 = .ok (.invokevirtual 264, 3) := by decide +kernel
theorem dX11_houseLine_113 : decode cX11_houseLine 113 = .ok (.iastore, 1) := by decide +kernel
theorem dX11_houseLine_114 : decode cX11_houseLine 114 = .ok (.aload_n 0, 1) := by decide +kernel
theorem dX11_houseLine_115 : decode cX11_houseLine 115 = .ok (.getfield 23, 3) := by decide +kernel
theorem dX11_houseLine_118 : decode cX11_houseLine 118 = .ok (.iconst 5, 1) := by decide +kernel
theorem dX11_houseLine_119 : decode cX11_houseLine 119 = .ok (.aload_n 0, 1) := by decide +kernel
theorem dX11_houseLine_120 : decode cX11_houseLine 120 = .ok (.ldc_w 275, 3) := by decide +kernel
theorem dX11_houseLine_123 : decode cX11_houseLine 123 = .ok (.iconst 0, 1) := by decide +kernel
theorem dX11_houseLine_124 : decode cX11_houseLine 124 = .ok (.sipush 999, 3) := by decide +kernel
theorem dX11_houseLine_127 : decode cX11_houseLine 127 = .ok (.invokevirtual 264, 3) := by decide +kernel
theorem dX11_houseLine_130 : decode cX11_houseLine 130 = .ok (.iastore, 1) := by decide +kernel
theorem dX11_houseLine_131 : decode cX11_houseLine 131 = .ok (.aload_n 0, 1) := by decide +kernel
theorem dX11_houseLine_132 : decode cX11_houseLine 132 = .ok (.getfield 121, 3) := by decide +kernel
theorem dX11_houseLine_135 : decode cX11_houseLine 135 = .ok (.ifCond .ne 11, 3) := by decide +kernel
theorem dX11_houseLine_138 : decode cX11_houseLine 138 = .ok (.aload_n 0, 1) := by decide +kernel
theorem dX11_houseLine_139 : decode cX11_houseLine 139 = .ok (.getfield 23, 3) := by decide +kernel
theorem dX11_houseLine_142 : decode cX11_houseLine 142 = .ok (.bipush 15, 2) := by decide +kernel
theorem dX11_houseLine_144 : decode cX11_houseLine 144 = .ok (.iconst 1, 1) := by decide +kernel
theorem dX11_houseLine_145 : decode cX11_houseLine 145 = .ok (.iastore, 1) := by decide +kernel
theorem dX11_houseLine_146 : decode cX11_houseLine 146 = .ok (.return_, 1) := by decide +kernel
set_option maxHeartbeats 4000000 in
set_option maxRecDepth 100000 in
theorem m_houseLine (l : Launch) (g : Gx) (h0 : Nat) (m_thrown : Int32) (a_tape : Nat) (m_taped : Int32) (m_size : Int32) (m_at : Int32) (m_end : Int32) (m_token : Int32) (m_whole : Int32) (m_nameSize : Int32) (m_fault : Int32) (m_place : Int32) (m_trouble : Int32) (a_letters : Nat) (m_failed : Int32) (m_hasHouse : Int32) (a_r : Nat) (a_fresh : Nat) (a_st : Nat) (a_undone : Nat) (a_kept : Nat) (m_undos : Int32) (m_images : Int32) (a_from : Nat) (a_begin : Nat) (a_motor : Nat) (a_change : Nat) (a_startFrame : Nat) (a_changeFrame : Nat) (a_lostAt : Nat) (a_blackAt : Nat) (a_slips : Nat) (a_leftArc : Nat) (a_died : Nat) (a_arcs : Nat) (m_bestSum : Int32) (m_nearest : Int32) (m_nearestTown : Int32) (a_there : Nat) (a_backAt : Nat) (a_sorted : Nat) (a_parts : Nat) (m_seed1 : Int32) (m_darkNow : Int32) (d_tape : Nat → Int32) (d_letters : Nat → Int32) (d_fresh : Nat → Int32) (hv_m_size : IV m_size 0 900) (hv_m_end : IV m_end 0 900) (hv_m_nameSize : IV m_nameSize 0 900) (hv_m_failed : IV m_failed 0 1) (hp_d_fresh : RInv d_fresh) (hc_0 : m_token = 2 → IV m_nameSize 0 8) : cV l g yX11_houseLine cX11_houseLine 1 8 173 0 0 [.ref h0] [(h0, .inr (11, [.int m_thrown, .ref a_tape, .int m_taped, .int m_size, .int m_at, .int m_end, .int m_token, .int m_whole, .int m_nameSize, .int m_fault, .int m_place, .int m_trouble, .ref a_letters, .int m_failed, .int m_hasHouse, .ref a_r, .ref a_fresh, .ref a_st, .ref a_undone, .ref a_kept, .int m_undos, .int m_images, .ref a_from, .ref a_begin, .ref a_motor, .ref a_change, .ref a_startFrame, .ref a_changeFrame, .ref a_lostAt, .ref a_blackAt, .ref a_slips, .ref a_leftArc, .ref a_died, .ref a_arcs, .int m_bestSum, .int m_nearest, .int m_nearestTown, .ref a_there, .ref a_backAt, .ref a_sorted, .ref a_parts, .int m_seed1, .int m_darkNow])), (a_tape, .inl (g.2.2.1, 900, .inl d_tape)), (a_letters, .inl (g.2.2.1, 8, .inl d_letters)), (a_fresh, .inl (g.2.2.1, 311, .inl d_fresh))] (fun w => ∃ (m_at2 : Int32) (m_end2 : Int32) (m_failed2 : Int32) (m_fault2 : Int32) (d_fresh2 : Nat → Int32) (d_letters2 : Nat → Int32) (m_nameSize2 : Int32) (m_place2 : Int32) (m_token2 : Int32) (m_whole2 : Int32), IV m_end2 0 900 ∧ IV m_failed2 0 1 ∧ IV m_nameSize2 0 900 ∧ RInv d_fresh2 ∧ (m_end.toInt ≤ m_end2.toInt) ∧ (m_token2 = 2 → IV m_nameSize2 0 8) ∧ w = [(h0, .inr (11, [.int m_thrown, .ref a_tape, .int m_taped, .int m_size, .int m_at2, .int m_end2, .int m_token2, .int m_whole2, .int m_nameSize2, .int m_fault2, .int m_place2, .int m_trouble, .ref a_letters, .int m_failed2, .int m_hasHouse, .ref a_r, .ref a_fresh, .ref a_st, .ref a_undone, .ref a_kept, .int m_undos, .int m_images, .ref a_from, .ref a_begin, .ref a_motor, .ref a_change, .ref a_startFrame, .ref a_changeFrame, .ref a_lostAt, .ref a_blackAt, .ref a_slips, .ref a_leftArc, .ref a_died, .ref a_arcs, .int m_bestSum, .int m_nearest, .int m_nearestTown, .ref a_there, .ref a_backAt, .ref a_sorted, .ref a_parts, .int m_seed1, .int m_darkNow])), (a_tape, .inl (g.2.2.1, 900, .inl d_tape)), (a_letters, .inl (g.2.2.1, 8, .inl d_letters2)), (a_fresh, .inl (g.2.2.1, 311, .inl d_fresh2))]) := by
  refine cV.of (by decide) (Nat.le_of_ble_eq_true rfl) ?_
  intro p e s m args below meth c A X hr hi
  refine k_lveq [(0, .ref h0)] rfl ?_
  refine k_aload_n X dX11_houseLine_0 0 rfl ?_
  refine k_get (ci := 11) X inlX11 rfl 16 (by decide) dX11_houseLine_1 mw171 0 rfl rfl ?_
  refine k_bipush (v := 15) X dX11_houseLine_4 (by decide) ?_
  refine k_iald X dX11_houseLine_6 3 rfl (by unfold vp_in; decide) ?_
  refine k_nm (fun z_1 ez_1 => ?_)
  refine k_iconst (v := 1) X dX11_houseLine_7 (by decide) ?_
  refine k_ic_ne 20 X dX11_houseLine_8 (by decide) (fun h_2 => ?_) (fun h_2 => ?_)
  · skip
    refine k_aload_n X dX11_houseLine_20 0 rfl ?_
    refine k_get (ci := 11) X inlX11 rfl 13 (by decide) dX11_houseLine_21 mw469 0 rfl rfl ?_
    refine k_if_eq 28 X dX11_houseLine_24 (by decide) (fun h_3 => ?_) (fun h_3 => ?_)
    · skip
      have iv_4 : IV m_failed 0 0 := iv_meet hv_m_failed (iv_e h_3 (show IV 0 0 0 from (by decide))) (by decide) (by decide)
      refine k_aload_n X dX11_houseLine_28 0 rfl ?_
      refine k_callVV (n := 0) (As := []) (st := []) X [(h0, .inr (11, [.int m_thrown, .ref a_tape, .int m_taped, .int m_size, .int m_at, .int m_end, .int m_token, .int m_whole, .int m_nameSize, .int m_fault, .int m_place, .int m_trouble, .ref a_letters, .int m_failed, .int m_hasHouse, .ref a_r, .ref a_fresh, .ref a_st, .ref a_undone, .ref a_kept, .int m_undos, .int m_images, .ref a_from, .ref a_begin, .ref a_motor, .ref a_change, .ref a_startFrame, .ref a_changeFrame, .ref a_lostAt, .ref a_blackAt, .ref a_slips, .ref a_leftArc, .ref a_died, .ref a_arcs, .int m_bestSum, .int m_nearest, .int m_nearestTown, .ref a_there, .ref a_backAt, .ref a_sorted, .ref a_parts, .int m_seed1, .int m_darkNow])), (a_tape, .inl (g.2.2.1, 900, .inl d_tape)), (a_letters, .inl (g.2.2.1, 8, .inl d_letters))] [(a_fresh, .inl (g.2.2.1, 311, .inl d_fresh))] [0, 1, 2] [3] (m_next l g h0 m_thrown a_tape m_taped m_size m_at m_end m_token m_whole m_nameSize m_fault m_place m_trouble a_letters m_failed m_hasHouse a_r a_fresh a_st a_undone a_kept m_undos m_images a_from a_begin a_motor a_change a_startFrame a_changeFrame a_lostAt a_blackAt a_slips a_leftArc a_died a_arcs m_bestSum m_nearest m_nearestTown a_there a_backAt a_sorted a_parts m_seed1 m_darkNow d_tape d_letters (iv_w hv_m_size (by decide) (by decide)) (iv_w hv_m_end (by decide) (by decide)) (iv_w hv_m_nameSize (by decide) (by decide))) dX11_houseLine_29 mw489 mw490 mw491 mw5 mw492 rfl 11 rfl rfl 0 _ rfl (by unfold yOk; decide) rfl (Nat.le_of_ble_eq_true rfl) (Nat.le_of_ble_eq_true rfl) (Nat.le_of_ble_eq_true rfl) (Nat.le_of_ble_eq_true rfl) (Nat.le_of_ble_eq_true rfl) rfl rfl (by decide) rfl (by decide) (by decide) ?_
      rintro w ⟨m_at2_5, m_end2_6, d_letters2_7, m_nameSize2_8, m_token2_9, m_whole2_10, iv_12, iv_13, hq_14, hq_15, hk_16, rfl⟩
      refine k_ws [(a_fresh, .inl (g.2.2.1, 311, .inl d_fresh)), (h0, .inr (11, [.int m_thrown, .ref a_tape, .int m_taped, .int m_size, .int m_at2_5, .int m_end2_6, .int m_token2_9, .int m_whole2_10, .int m_nameSize2_8, .int m_fault, .int m_place, .int m_trouble, .ref a_letters, .int m_failed, .int m_hasHouse, .ref a_r, .ref a_fresh, .ref a_st, .ref a_undone, .ref a_kept, .int m_undos, .int m_images, .ref a_from, .ref a_begin, .ref a_motor, .ref a_change, .ref a_startFrame, .ref a_changeFrame, .ref a_lostAt, .ref a_blackAt, .ref a_slips, .ref a_leftArc, .ref a_died, .ref a_arcs, .int m_bestSum, .int m_nearest, .int m_nearestTown, .ref a_there, .ref a_backAt, .ref a_sorted, .ref a_parts, .int m_seed1, .int m_darkNow])), (a_tape, .inl (g.2.2.1, 900, .inl d_tape)), (a_letters, .inl (g.2.2.1, 8, .inl d_letters2_7))] rfl ?_
      refine k_aload_n X dX11_houseLine_32 0 rfl ?_
      refine k_get (ci := 11) X inlX11 rfl 16 (by decide) dX11_houseLine_33 mw171 1 rfl rfl ?_
      refine k_iconst (v := 0) X dX11_houseLine_36 (by decide) ?_
      refine k_aload_n X dX11_houseLine_37 0 rfl ?_
      refine k_ldcwS (tx := "apart") X dX11_houseLine_38 (by decide +kernel) (fun sr_17 hsr_17 => ?_)
      refine k_iconst (v := 1) X dX11_houseLine_41 (by decide) ?_
      refine k_bipush (v := 50) X dX11_houseLine_42 (by decide) ?_
      refine k_callVI (n := 3) (As := [.ref sr_17, .int 1, .int 50]) (st := [.int 0, .ref a_fresh]) X [(h0, .inr (11, [.int m_thrown, .ref a_tape, .int m_taped, .int m_size, .int m_at2_5, .int m_end2_6, .int m_token2_9, .int m_whole2_10, .int m_nameSize2_8, .int m_fault, .int m_place, .int m_trouble, .ref a_letters, .int m_failed, .int m_hasHouse, .ref a_r, .ref a_fresh, .ref a_st, .ref a_undone, .ref a_kept, .int m_undos, .int m_images, .ref a_from, .ref a_begin, .ref a_motor, .ref a_change, .ref a_startFrame, .ref a_changeFrame, .ref a_lostAt, .ref a_blackAt, .ref a_slips, .ref a_leftArc, .ref a_died, .ref a_arcs, .int m_bestSum, .int m_nearest, .int m_nearestTown, .ref a_there, .ref a_backAt, .ref a_sorted, .ref a_parts, .int m_seed1, .int m_darkNow])), (a_tape, .inl (g.2.2.1, 900, .inl d_tape)), (a_letters, .inl (g.2.2.1, 8, .inl d_letters2_7))] [(a_fresh, .inl (g.2.2.1, 311, .inl d_fresh))] [1, 2, 3] [0] (m_after l g h0 sr_17 1 50 m_thrown a_tape m_taped m_size m_at2_5 m_end2_6 m_token2_9 m_whole2_10 m_nameSize2_8 m_fault m_place m_trouble a_letters m_failed m_hasHouse a_r a_fresh a_st a_undone a_kept m_undos m_images a_from a_begin a_motor a_change a_startFrame a_changeFrame a_lostAt a_blackAt a_slips a_leftArc a_died a_arcs m_bestSum m_nearest m_nearestTown a_there a_backAt a_sorted a_parts m_seed1 m_darkNow d_tape d_letters2_7 ("apart") (iv_w hv_m_size (by decide) (by decide)) (iv_w iv_12 (by decide) (by decide)) (iv_w iv_13 (by decide) (by decide)) (iv_w iv_4 (by decide) (by decide)) hsr_17 hk_16) dX11_houseLine_44 mw523 mw524 mw525 mw5 mw526 rfl 11 rfl rfl 0 _ rfl (by unfold yOk; decide) rfl (Nat.le_of_ble_eq_true rfl) (Nat.le_of_ble_eq_true rfl) (Nat.le_of_ble_eq_true rfl) (Nat.le_of_ble_eq_true rfl) (Nat.le_of_ble_eq_true rfl) rfl rfl (by decide) rfl (by decide) (by decide) ?_
      rintro r_27 w ⟨m_at2_18, m_end2_19, m_failed2_20, m_fault2_21, d_letters2_22, m_nameSize2_23, m_place2_24, m_token2_25, m_whole2_26, iv_28, iv_29, iv_30, hq_31, hq_32, hk_33, rfl⟩
      refine k_ws [(a_fresh, .inl (g.2.2.1, 311, .inl d_fresh)), (h0, .inr (11, [.int m_thrown, .ref a_tape, .int m_taped, .int m_size, .int m_at2_18, .int m_end2_19, .int m_token2_25, .int m_whole2_26, .int m_nameSize2_23, .int m_fault2_21, .int m_place2_24, .int m_trouble, .ref a_letters, .int m_failed2_20, .int m_hasHouse, .ref a_r, .ref a_fresh, .ref a_st, .ref a_undone, .ref a_kept, .int m_undos, .int m_images, .ref a_from, .ref a_begin, .ref a_motor, .ref a_change, .ref a_startFrame, .ref a_changeFrame, .ref a_lostAt, .ref a_blackAt, .ref a_slips, .ref a_leftArc, .ref a_died, .ref a_arcs, .int m_bestSum, .int m_nearest, .int m_nearestTown, .ref a_there, .ref a_backAt, .ref a_sorted, .ref a_parts, .int m_seed1, .int m_darkNow])), (a_tape, .inl (g.2.2.1, 900, .inl d_tape)), (a_letters, .inl (g.2.2.1, 8, .inl d_letters2_22))] rfl ?_
      have e_34 : (1 : Int32).toInt = 1 := by decide
      have e_35 : (50 : Int32).toInt = 50 := by decide
      have iv_36 : IV r_27 1 50 := by have := (show IV 1 1 1 from (by decide)); have := (show IV 50 50 50 from (by decide)); rw [IV]; omega
      refine k_iast [(a_fresh, .inl (g.2.2.1, 311, .inl (upd d_fresh (0 : Int32).toNatClampNeg r_27))), (h0, .inr (11, [.int m_thrown, .ref a_tape, .int m_taped, .int m_size, .int m_at2_18, .int m_end2_19, .int m_token2_25, .int m_whole2_26, .int m_nameSize2_23, .int m_fault2_21, .int m_place2_24, .int m_trouble, .ref a_letters, .int m_failed2_20, .int m_hasHouse, .ref a_r, .ref a_fresh, .ref a_st, .ref a_undone, .ref a_kept, .int m_undos, .int m_images, .ref a_from, .ref a_begin, .ref a_motor, .ref a_change, .ref a_startFrame, .ref a_changeFrame, .ref a_lostAt, .ref a_blackAt, .ref a_slips, .ref a_leftArc, .ref a_died, .ref a_arcs, .int m_bestSum, .int m_nearest, .int m_nearestTown, .ref a_there, .ref a_backAt, .ref a_sorted, .ref a_parts, .int m_seed1, .int m_darkNow])), (a_tape, .inl (g.2.2.1, 900, .inl d_tape)), (a_letters, .inl (g.2.2.1, 8, .inl d_letters2_22))] X dX11_houseLine_47 0 rfl (by unfold vp_in; decide) rfl ?_
      refine (fun hg : ∀ fa_37 : Nat → Int32, RInv fa_37 → Wk p l e _ s m args below meth c _ A g _ _ _ [(a_fresh, .inl (g.2.2.1, 311, .inl fa_37)), (h0, .inr (11, [.int m_thrown, .ref a_tape, .int m_taped, .int m_size, .int m_at2_18, .int m_end2_19, .int m_token2_25, .int m_whole2_26, .int m_nameSize2_23, .int m_fault2_21, .int m_place2_24, .int m_trouble, .ref a_letters, .int m_failed2_20, .int m_hasHouse, .ref a_r, .ref a_fresh, .ref a_st, .ref a_undone, .ref a_kept, .int m_undos, .int m_images, .ref a_from, .ref a_begin, .ref a_motor, .ref a_change, .ref a_startFrame, .ref a_changeFrame, .ref a_lostAt, .ref a_blackAt, .ref a_slips, .ref a_leftArc, .ref a_died, .ref a_arcs, .int m_bestSum, .int m_nearest, .int m_nearestTown, .ref a_there, .ref a_backAt, .ref a_sorted, .ref a_parts, .int m_seed1, .int m_darkNow])), (a_tape, .inl (g.2.2.1, 900, .inl d_tape)), (a_letters, .inl (g.2.2.1, 8, .inl d_letters2_22))] _ _ _ => hg _ (w_fr_0 hp_d_fresh)) (fun fa_37 hR_38 => ?_)
      refine k_aload_n X dX11_houseLine_48 0 rfl ?_
      refine k_get (ci := 11) X inlX11 rfl 16 (by decide) dX11_houseLine_49 mw171 1 rfl rfl ?_
      refine k_iconst (v := 1) X dX11_houseLine_52 (by decide) ?_
      refine k_aload_n X dX11_houseLine_53 0 rfl ?_
      refine k_ldcwS (tx := "motor") X dX11_houseLine_54 (by decide +kernel) (fun sr_40 hsr_40 => ?_)
      refine k_iconst (v := 0) X dX11_houseLine_57 (by decide) ?_
      refine k_bipush (v := 50) X dX11_houseLine_58 (by decide) ?_
      refine k_callVI (n := 3) (As := [.ref sr_40, .int 0, .int 50]) (st := [.int 1, .ref a_fresh]) X [(h0, .inr (11, [.int m_thrown, .ref a_tape, .int m_taped, .int m_size, .int m_at2_18, .int m_end2_19, .int m_token2_25, .int m_whole2_26, .int m_nameSize2_23, .int m_fault2_21, .int m_place2_24, .int m_trouble, .ref a_letters, .int m_failed2_20, .int m_hasHouse, .ref a_r, .ref a_fresh, .ref a_st, .ref a_undone, .ref a_kept, .int m_undos, .int m_images, .ref a_from, .ref a_begin, .ref a_motor, .ref a_change, .ref a_startFrame, .ref a_changeFrame, .ref a_lostAt, .ref a_blackAt, .ref a_slips, .ref a_leftArc, .ref a_died, .ref a_arcs, .int m_bestSum, .int m_nearest, .int m_nearestTown, .ref a_there, .ref a_backAt, .ref a_sorted, .ref a_parts, .int m_seed1, .int m_darkNow])), (a_tape, .inl (g.2.2.1, 900, .inl d_tape)), (a_letters, .inl (g.2.2.1, 8, .inl d_letters2_22))] [(a_fresh, .inl (g.2.2.1, 311, .inl fa_37))] [1, 2, 3] [0] (m_after l g h0 sr_40 0 50 m_thrown a_tape m_taped m_size m_at2_18 m_end2_19 m_token2_25 m_whole2_26 m_nameSize2_23 m_fault2_21 m_place2_24 m_trouble a_letters m_failed2_20 m_hasHouse a_r a_fresh a_st a_undone a_kept m_undos m_images a_from a_begin a_motor a_change a_startFrame a_changeFrame a_lostAt a_blackAt a_slips a_leftArc a_died a_arcs m_bestSum m_nearest m_nearestTown a_there a_backAt a_sorted a_parts m_seed1 m_darkNow d_tape d_letters2_22 ("motor") (iv_w hv_m_size (by decide) (by decide)) (iv_w iv_28 (by decide) (by decide)) (iv_w iv_30 (by decide) (by decide)) (iv_w iv_29 (by decide) (by decide)) hsr_40 hk_33) dX11_houseLine_60 mw523 mw524 mw525 mw5 mw526 rfl 11 rfl rfl 0 _ rfl (by unfold yOk; decide) rfl (Nat.le_of_ble_eq_true rfl) (Nat.le_of_ble_eq_true rfl) (Nat.le_of_ble_eq_true rfl) (Nat.le_of_ble_eq_true rfl) (Nat.le_of_ble_eq_true rfl) rfl rfl (by decide) rfl (by decide) (by decide) ?_
      rintro r_50 w ⟨m_at2_41, m_end2_42, m_failed2_43, m_fault2_44, d_letters2_45, m_nameSize2_46, m_place2_47, m_token2_48, m_whole2_49, iv_51, iv_52, iv_53, hq_54, hq_55, hk_56, rfl⟩
      refine k_ws [(a_fresh, .inl (g.2.2.1, 311, .inl fa_37)), (h0, .inr (11, [.int m_thrown, .ref a_tape, .int m_taped, .int m_size, .int m_at2_41, .int m_end2_42, .int m_token2_48, .int m_whole2_49, .int m_nameSize2_46, .int m_fault2_44, .int m_place2_47, .int m_trouble, .ref a_letters, .int m_failed2_43, .int m_hasHouse, .ref a_r, .ref a_fresh, .ref a_st, .ref a_undone, .ref a_kept, .int m_undos, .int m_images, .ref a_from, .ref a_begin, .ref a_motor, .ref a_change, .ref a_startFrame, .ref a_changeFrame, .ref a_lostAt, .ref a_blackAt, .ref a_slips, .ref a_leftArc, .ref a_died, .ref a_arcs, .int m_bestSum, .int m_nearest, .int m_nearestTown, .ref a_there, .ref a_backAt, .ref a_sorted, .ref a_parts, .int m_seed1, .int m_darkNow])), (a_tape, .inl (g.2.2.1, 900, .inl d_tape)), (a_letters, .inl (g.2.2.1, 8, .inl d_letters2_45))] rfl ?_
      have e_57 : (0 : Int32).toInt = 0 := by decide
      have e_58 : (50 : Int32).toInt = 50 := by decide
      have iv_59 : IV r_50 0 50 := by have := (show IV 0 0 0 from (by decide)); have := (show IV 50 50 50 from (by decide)); rw [IV]; omega
      refine k_iast [(a_fresh, .inl (g.2.2.1, 311, .inl (upd fa_37 (1 : Int32).toNatClampNeg r_50))), (h0, .inr (11, [.int m_thrown, .ref a_tape, .int m_taped, .int m_size, .int m_at2_41, .int m_end2_42, .int m_token2_48, .int m_whole2_49, .int m_nameSize2_46, .int m_fault2_44, .int m_place2_47, .int m_trouble, .ref a_letters, .int m_failed2_43, .int m_hasHouse, .ref a_r, .ref a_fresh, .ref a_st, .ref a_undone, .ref a_kept, .int m_undos, .int m_images, .ref a_from, .ref a_begin, .ref a_motor, .ref a_change, .ref a_startFrame, .ref a_changeFrame, .ref a_lostAt, .ref a_blackAt, .ref a_slips, .ref a_leftArc, .ref a_died, .ref a_arcs, .int m_bestSum, .int m_nearest, .int m_nearestTown, .ref a_there, .ref a_backAt, .ref a_sorted, .ref a_parts, .int m_seed1, .int m_darkNow])), (a_tape, .inl (g.2.2.1, 900, .inl d_tape)), (a_letters, .inl (g.2.2.1, 8, .inl d_letters2_45))] X dX11_houseLine_63 0 rfl (by unfold vp_in; decide) rfl ?_
      refine (fun hg : ∀ fa_60 : Nat → Int32, RInv fa_60 → Wk p l e _ s m args below meth c _ A g _ _ _ [(a_fresh, .inl (g.2.2.1, 311, .inl fa_60)), (h0, .inr (11, [.int m_thrown, .ref a_tape, .int m_taped, .int m_size, .int m_at2_41, .int m_end2_42, .int m_token2_48, .int m_whole2_49, .int m_nameSize2_46, .int m_fault2_44, .int m_place2_47, .int m_trouble, .ref a_letters, .int m_failed2_43, .int m_hasHouse, .ref a_r, .ref a_fresh, .ref a_st, .ref a_undone, .ref a_kept, .int m_undos, .int m_images, .ref a_from, .ref a_begin, .ref a_motor, .ref a_change, .ref a_startFrame, .ref a_changeFrame, .ref a_lostAt, .ref a_blackAt, .ref a_slips, .ref a_leftArc, .ref a_died, .ref a_arcs, .int m_bestSum, .int m_nearest, .int m_nearestTown, .ref a_there, .ref a_backAt, .ref a_sorted, .ref a_parts, .int m_seed1, .int m_darkNow])), (a_tape, .inl (g.2.2.1, 900, .inl d_tape)), (a_letters, .inl (g.2.2.1, 8, .inl d_letters2_45))] _ _ _ => hg _ (w_fr_1 hR_38)) (fun fa_60 hR_61 => ?_)
      refine k_aload_n X dX11_houseLine_64 0 rfl ?_
      refine k_get (ci := 11) X inlX11 rfl 16 (by decide) dX11_houseLine_65 mw171 1 rfl rfl ?_
      refine k_iconst (v := 2) X dX11_houseLine_68 (by decide) ?_
      refine k_aload_n X dX11_houseLine_69 0 rfl ?_
      refine k_ldcwS (tx := "leader") X dX11_houseLine_70 (by decide +kernel) (fun sr_63 hsr_63 => ?_)
      refine k_iconst (v := 0) X dX11_houseLine_73 (by decide) ?_
      refine k_bipush (v := 99) X dX11_houseLine_74 (by decide) ?_
      refine k_callVI (n := 3) (As := [.ref sr_63, .int 0, .int 99]) (st := [.int 2, .ref a_fresh]) X [(h0, .inr (11, [.int m_thrown, .ref a_tape, .int m_taped, .int m_size, .int m_at2_41, .int m_end2_42, .int m_token2_48, .int m_whole2_49, .int m_nameSize2_46, .int m_fault2_44, .int m_place2_47, .int m_trouble, .ref a_letters, .int m_failed2_43, .int m_hasHouse, .ref a_r, .ref a_fresh, .ref a_st, .ref a_undone, .ref a_kept, .int m_undos, .int m_images, .ref a_from, .ref a_begin, .ref a_motor, .ref a_change, .ref a_startFrame, .ref a_changeFrame, .ref a_lostAt, .ref a_blackAt, .ref a_slips, .ref a_leftArc, .ref a_died, .ref a_arcs, .int m_bestSum, .int m_nearest, .int m_nearestTown, .ref a_there, .ref a_backAt, .ref a_sorted, .ref a_parts, .int m_seed1, .int m_darkNow])), (a_tape, .inl (g.2.2.1, 900, .inl d_tape)), (a_letters, .inl (g.2.2.1, 8, .inl d_letters2_45))] [(a_fresh, .inl (g.2.2.1, 311, .inl fa_60))] [1, 2, 3] [0] (m_after l g h0 sr_63 0 99 m_thrown a_tape m_taped m_size m_at2_41 m_end2_42 m_token2_48 m_whole2_49 m_nameSize2_46 m_fault2_44 m_place2_47 m_trouble a_letters m_failed2_43 m_hasHouse a_r a_fresh a_st a_undone a_kept m_undos m_images a_from a_begin a_motor a_change a_startFrame a_changeFrame a_lostAt a_blackAt a_slips a_leftArc a_died a_arcs m_bestSum m_nearest m_nearestTown a_there a_backAt a_sorted a_parts m_seed1 m_darkNow d_tape d_letters2_45 ("leader") (iv_w hv_m_size (by decide) (by decide)) (iv_w iv_51 (by decide) (by decide)) (iv_w iv_53 (by decide) (by decide)) (iv_w iv_52 (by decide) (by decide)) hsr_63 hk_56) dX11_houseLine_76 mw523 mw524 mw525 mw5 mw526 rfl 11 rfl rfl 0 _ rfl (by unfold yOk; decide) rfl (Nat.le_of_ble_eq_true rfl) (Nat.le_of_ble_eq_true rfl) (Nat.le_of_ble_eq_true rfl) (Nat.le_of_ble_eq_true rfl) (Nat.le_of_ble_eq_true rfl) rfl rfl (by decide) rfl (by decide) (by decide) ?_
      rintro r_73 w ⟨m_at2_64, m_end2_65, m_failed2_66, m_fault2_67, d_letters2_68, m_nameSize2_69, m_place2_70, m_token2_71, m_whole2_72, iv_74, iv_75, iv_76, hq_77, hq_78, hk_79, rfl⟩
      refine k_ws [(a_fresh, .inl (g.2.2.1, 311, .inl fa_60)), (h0, .inr (11, [.int m_thrown, .ref a_tape, .int m_taped, .int m_size, .int m_at2_64, .int m_end2_65, .int m_token2_71, .int m_whole2_72, .int m_nameSize2_69, .int m_fault2_67, .int m_place2_70, .int m_trouble, .ref a_letters, .int m_failed2_66, .int m_hasHouse, .ref a_r, .ref a_fresh, .ref a_st, .ref a_undone, .ref a_kept, .int m_undos, .int m_images, .ref a_from, .ref a_begin, .ref a_motor, .ref a_change, .ref a_startFrame, .ref a_changeFrame, .ref a_lostAt, .ref a_blackAt, .ref a_slips, .ref a_leftArc, .ref a_died, .ref a_arcs, .int m_bestSum, .int m_nearest, .int m_nearestTown, .ref a_there, .ref a_backAt, .ref a_sorted, .ref a_parts, .int m_seed1, .int m_darkNow])), (a_tape, .inl (g.2.2.1, 900, .inl d_tape)), (a_letters, .inl (g.2.2.1, 8, .inl d_letters2_68))] rfl ?_
      have e_80 : (0 : Int32).toInt = 0 := by decide
      have e_81 : (99 : Int32).toInt = 99 := by decide
      have iv_82 : IV r_73 0 99 := by have := (show IV 0 0 0 from (by decide)); have := (show IV 99 99 99 from (by decide)); rw [IV]; omega
      refine k_iast [(a_fresh, .inl (g.2.2.1, 311, .inl (upd fa_60 (2 : Int32).toNatClampNeg r_73))), (h0, .inr (11, [.int m_thrown, .ref a_tape, .int m_taped, .int m_size, .int m_at2_64, .int m_end2_65, .int m_token2_71, .int m_whole2_72, .int m_nameSize2_69, .int m_fault2_67, .int m_place2_70, .int m_trouble, .ref a_letters, .int m_failed2_66, .int m_hasHouse, .ref a_r, .ref a_fresh, .ref a_st, .ref a_undone, .ref a_kept, .int m_undos, .int m_images, .ref a_from, .ref a_begin, .ref a_motor, .ref a_change, .ref a_startFrame, .ref a_changeFrame, .ref a_lostAt, .ref a_blackAt, .ref a_slips, .ref a_leftArc, .ref a_died, .ref a_arcs, .int m_bestSum, .int m_nearest, .int m_nearestTown, .ref a_there, .ref a_backAt, .ref a_sorted, .ref a_parts, .int m_seed1, .int m_darkNow])), (a_tape, .inl (g.2.2.1, 900, .inl d_tape)), (a_letters, .inl (g.2.2.1, 8, .inl d_letters2_68))] X dX11_houseLine_79 0 rfl (by unfold vp_in; decide) rfl ?_
      refine (fun hg : ∀ fa_83 : Nat → Int32, RInv fa_83 → Wk p l e _ s m args below meth c _ A g _ _ _ [(a_fresh, .inl (g.2.2.1, 311, .inl fa_83)), (h0, .inr (11, [.int m_thrown, .ref a_tape, .int m_taped, .int m_size, .int m_at2_64, .int m_end2_65, .int m_token2_71, .int m_whole2_72, .int m_nameSize2_69, .int m_fault2_67, .int m_place2_70, .int m_trouble, .ref a_letters, .int m_failed2_66, .int m_hasHouse, .ref a_r, .ref a_fresh, .ref a_st, .ref a_undone, .ref a_kept, .int m_undos, .int m_images, .ref a_from, .ref a_begin, .ref a_motor, .ref a_change, .ref a_startFrame, .ref a_changeFrame, .ref a_lostAt, .ref a_blackAt, .ref a_slips, .ref a_leftArc, .ref a_died, .ref a_arcs, .int m_bestSum, .int m_nearest, .int m_nearestTown, .ref a_there, .ref a_backAt, .ref a_sorted, .ref a_parts, .int m_seed1, .int m_darkNow])), (a_tape, .inl (g.2.2.1, 900, .inl d_tape)), (a_letters, .inl (g.2.2.1, 8, .inl d_letters2_68))] _ _ _ => hg _ (w_fr_2 hR_61)) (fun fa_83 hR_84 => ?_)
      refine k_aload_n X dX11_houseLine_80 0 rfl ?_
      refine k_get (ci := 11) X inlX11 rfl 16 (by decide) dX11_houseLine_81 mw171 1 rfl rfl ?_
      refine k_iconst (v := 3) X dX11_houseLine_84 (by decide) ?_
      refine k_aload_n X dX11_houseLine_85 0 rfl ?_
      refine k_ldcwS (tx := "burns") X dX11_houseLine_86 (by decide +kernel) (fun sr_86 hsr_86 => ?_)
      refine k_iconst (v := 1) X dX11_houseLine_89 (by decide) ?_
      refine k_sipush (v := 9999) X dX11_houseLine_90 (by decide) ?_
      refine k_callVI (n := 3) (As := [.ref sr_86, .int 1, .int 9999]) (st := [.int 3, .ref a_fresh]) X [(h0, .inr (11, [.int m_thrown, .ref a_tape, .int m_taped, .int m_size, .int m_at2_64, .int m_end2_65, .int m_token2_71, .int m_whole2_72, .int m_nameSize2_69, .int m_fault2_67, .int m_place2_70, .int m_trouble, .ref a_letters, .int m_failed2_66, .int m_hasHouse, .ref a_r, .ref a_fresh, .ref a_st, .ref a_undone, .ref a_kept, .int m_undos, .int m_images, .ref a_from, .ref a_begin, .ref a_motor, .ref a_change, .ref a_startFrame, .ref a_changeFrame, .ref a_lostAt, .ref a_blackAt, .ref a_slips, .ref a_leftArc, .ref a_died, .ref a_arcs, .int m_bestSum, .int m_nearest, .int m_nearestTown, .ref a_there, .ref a_backAt, .ref a_sorted, .ref a_parts, .int m_seed1, .int m_darkNow])), (a_tape, .inl (g.2.2.1, 900, .inl d_tape)), (a_letters, .inl (g.2.2.1, 8, .inl d_letters2_68))] [(a_fresh, .inl (g.2.2.1, 311, .inl fa_83))] [1, 2, 3] [0] (m_after l g h0 sr_86 1 9999 m_thrown a_tape m_taped m_size m_at2_64 m_end2_65 m_token2_71 m_whole2_72 m_nameSize2_69 m_fault2_67 m_place2_70 m_trouble a_letters m_failed2_66 m_hasHouse a_r a_fresh a_st a_undone a_kept m_undos m_images a_from a_begin a_motor a_change a_startFrame a_changeFrame a_lostAt a_blackAt a_slips a_leftArc a_died a_arcs m_bestSum m_nearest m_nearestTown a_there a_backAt a_sorted a_parts m_seed1 m_darkNow d_tape d_letters2_68 ("burns") (iv_w hv_m_size (by decide) (by decide)) (iv_w iv_74 (by decide) (by decide)) (iv_w iv_76 (by decide) (by decide)) (iv_w iv_75 (by decide) (by decide)) hsr_86 hk_79) dX11_houseLine_93 mw523 mw524 mw525 mw5 mw526 rfl 11 rfl rfl 0 _ rfl (by unfold yOk; decide) rfl (Nat.le_of_ble_eq_true rfl) (Nat.le_of_ble_eq_true rfl) (Nat.le_of_ble_eq_true rfl) (Nat.le_of_ble_eq_true rfl) (Nat.le_of_ble_eq_true rfl) rfl rfl (by decide) rfl (by decide) (by decide) ?_
      rintro r_96 w ⟨m_at2_87, m_end2_88, m_failed2_89, m_fault2_90, d_letters2_91, m_nameSize2_92, m_place2_93, m_token2_94, m_whole2_95, iv_97, iv_98, iv_99, hq_100, hq_101, hk_102, rfl⟩
      refine k_ws [(a_fresh, .inl (g.2.2.1, 311, .inl fa_83)), (h0, .inr (11, [.int m_thrown, .ref a_tape, .int m_taped, .int m_size, .int m_at2_87, .int m_end2_88, .int m_token2_94, .int m_whole2_95, .int m_nameSize2_92, .int m_fault2_90, .int m_place2_93, .int m_trouble, .ref a_letters, .int m_failed2_89, .int m_hasHouse, .ref a_r, .ref a_fresh, .ref a_st, .ref a_undone, .ref a_kept, .int m_undos, .int m_images, .ref a_from, .ref a_begin, .ref a_motor, .ref a_change, .ref a_startFrame, .ref a_changeFrame, .ref a_lostAt, .ref a_blackAt, .ref a_slips, .ref a_leftArc, .ref a_died, .ref a_arcs, .int m_bestSum, .int m_nearest, .int m_nearestTown, .ref a_there, .ref a_backAt, .ref a_sorted, .ref a_parts, .int m_seed1, .int m_darkNow])), (a_tape, .inl (g.2.2.1, 900, .inl d_tape)), (a_letters, .inl (g.2.2.1, 8, .inl d_letters2_91))] rfl ?_
      have e_103 : (1 : Int32).toInt = 1 := by decide
      have e_104 : (9999 : Int32).toInt = 9999 := by decide
      have iv_105 : IV r_96 1 9999 := by have := (show IV 1 1 1 from (by decide)); have := (show IV 9999 9999 9999 from (by decide)); rw [IV]; omega
      refine k_iast [(a_fresh, .inl (g.2.2.1, 311, .inl (upd fa_83 (3 : Int32).toNatClampNeg r_96))), (h0, .inr (11, [.int m_thrown, .ref a_tape, .int m_taped, .int m_size, .int m_at2_87, .int m_end2_88, .int m_token2_94, .int m_whole2_95, .int m_nameSize2_92, .int m_fault2_90, .int m_place2_93, .int m_trouble, .ref a_letters, .int m_failed2_89, .int m_hasHouse, .ref a_r, .ref a_fresh, .ref a_st, .ref a_undone, .ref a_kept, .int m_undos, .int m_images, .ref a_from, .ref a_begin, .ref a_motor, .ref a_change, .ref a_startFrame, .ref a_changeFrame, .ref a_lostAt, .ref a_blackAt, .ref a_slips, .ref a_leftArc, .ref a_died, .ref a_arcs, .int m_bestSum, .int m_nearest, .int m_nearestTown, .ref a_there, .ref a_backAt, .ref a_sorted, .ref a_parts, .int m_seed1, .int m_darkNow])), (a_tape, .inl (g.2.2.1, 900, .inl d_tape)), (a_letters, .inl (g.2.2.1, 8, .inl d_letters2_91))] X dX11_houseLine_96 0 rfl (by unfold vp_in; decide) rfl ?_
      refine (fun hg : ∀ fa_106 : Nat → Int32, RInv fa_106 → Wk p l e _ s m args below meth c _ A g _ _ _ [(a_fresh, .inl (g.2.2.1, 311, .inl fa_106)), (h0, .inr (11, [.int m_thrown, .ref a_tape, .int m_taped, .int m_size, .int m_at2_87, .int m_end2_88, .int m_token2_94, .int m_whole2_95, .int m_nameSize2_92, .int m_fault2_90, .int m_place2_93, .int m_trouble, .ref a_letters, .int m_failed2_89, .int m_hasHouse, .ref a_r, .ref a_fresh, .ref a_st, .ref a_undone, .ref a_kept, .int m_undos, .int m_images, .ref a_from, .ref a_begin, .ref a_motor, .ref a_change, .ref a_startFrame, .ref a_changeFrame, .ref a_lostAt, .ref a_blackAt, .ref a_slips, .ref a_leftArc, .ref a_died, .ref a_arcs, .int m_bestSum, .int m_nearest, .int m_nearestTown, .ref a_there, .ref a_backAt, .ref a_sorted, .ref a_parts, .int m_seed1, .int m_darkNow])), (a_tape, .inl (g.2.2.1, 900, .inl d_tape)), (a_letters, .inl (g.2.2.1, 8, .inl d_letters2_91))] _ _ _ => hg _ (w_fr_3 hR_84)) (fun fa_106 hR_107 => ?_)
      refine k_aload_n X dX11_houseLine_97 0 rfl ?_
      refine k_get (ci := 11) X inlX11 rfl 16 (by decide) dX11_houseLine_98 mw171 1 rfl rfl ?_
      refine k_iconst (v := 4) X dX11_houseLine_101 (by decide) ?_
      refine k_aload_n X dX11_houseLine_102 0 rfl ?_
      refine k_ldcwS (tx := "trim") X dX11_houseLine_103 (by decide +kernel) (fun sr_109 hsr_109 => ?_)
      refine k_iconst (v := 0) X dX11_houseLine_106 (by decide) ?_
      refine k_sipush (v := 999) X dX11_houseLine_107 (by decide) ?_
      refine k_callVI (n := 3) (As := [.ref sr_109, .int 0, .int 999]) (st := [.int 4, .ref a_fresh]) X [(h0, .inr (11, [.int m_thrown, .ref a_tape, .int m_taped, .int m_size, .int m_at2_87, .int m_end2_88, .int m_token2_94, .int m_whole2_95, .int m_nameSize2_92, .int m_fault2_90, .int m_place2_93, .int m_trouble, .ref a_letters, .int m_failed2_89, .int m_hasHouse, .ref a_r, .ref a_fresh, .ref a_st, .ref a_undone, .ref a_kept, .int m_undos, .int m_images, .ref a_from, .ref a_begin, .ref a_motor, .ref a_change, .ref a_startFrame, .ref a_changeFrame, .ref a_lostAt, .ref a_blackAt, .ref a_slips, .ref a_leftArc, .ref a_died, .ref a_arcs, .int m_bestSum, .int m_nearest, .int m_nearestTown, .ref a_there, .ref a_backAt, .ref a_sorted, .ref a_parts, .int m_seed1, .int m_darkNow])), (a_tape, .inl (g.2.2.1, 900, .inl d_tape)), (a_letters, .inl (g.2.2.1, 8, .inl d_letters2_91))] [(a_fresh, .inl (g.2.2.1, 311, .inl fa_106))] [1, 2, 3] [0] (m_after l g h0 sr_109 0 999 m_thrown a_tape m_taped m_size m_at2_87 m_end2_88 m_token2_94 m_whole2_95 m_nameSize2_92 m_fault2_90 m_place2_93 m_trouble a_letters m_failed2_89 m_hasHouse a_r a_fresh a_st a_undone a_kept m_undos m_images a_from a_begin a_motor a_change a_startFrame a_changeFrame a_lostAt a_blackAt a_slips a_leftArc a_died a_arcs m_bestSum m_nearest m_nearestTown a_there a_backAt a_sorted a_parts m_seed1 m_darkNow d_tape d_letters2_91 ("trim") (iv_w hv_m_size (by decide) (by decide)) (iv_w iv_97 (by decide) (by decide)) (iv_w iv_99 (by decide) (by decide)) (iv_w iv_98 (by decide) (by decide)) hsr_109 hk_102) dX11_houseLine_110 mw523 mw524 mw525 mw5 mw526 rfl 11 rfl rfl 0 _ rfl (by unfold yOk; decide) rfl (Nat.le_of_ble_eq_true rfl) (Nat.le_of_ble_eq_true rfl) (Nat.le_of_ble_eq_true rfl) (Nat.le_of_ble_eq_true rfl) (Nat.le_of_ble_eq_true rfl) rfl rfl (by decide) rfl (by decide) (by decide) ?_
      rintro r_119 w ⟨m_at2_110, m_end2_111, m_failed2_112, m_fault2_113, d_letters2_114, m_nameSize2_115, m_place2_116, m_token2_117, m_whole2_118, iv_120, iv_121, iv_122, hq_123, hq_124, hk_125, rfl⟩
      refine k_ws [(a_fresh, .inl (g.2.2.1, 311, .inl fa_106)), (h0, .inr (11, [.int m_thrown, .ref a_tape, .int m_taped, .int m_size, .int m_at2_110, .int m_end2_111, .int m_token2_117, .int m_whole2_118, .int m_nameSize2_115, .int m_fault2_113, .int m_place2_116, .int m_trouble, .ref a_letters, .int m_failed2_112, .int m_hasHouse, .ref a_r, .ref a_fresh, .ref a_st, .ref a_undone, .ref a_kept, .int m_undos, .int m_images, .ref a_from, .ref a_begin, .ref a_motor, .ref a_change, .ref a_startFrame, .ref a_changeFrame, .ref a_lostAt, .ref a_blackAt, .ref a_slips, .ref a_leftArc, .ref a_died, .ref a_arcs, .int m_bestSum, .int m_nearest, .int m_nearestTown, .ref a_there, .ref a_backAt, .ref a_sorted, .ref a_parts, .int m_seed1, .int m_darkNow])), (a_tape, .inl (g.2.2.1, 900, .inl d_tape)), (a_letters, .inl (g.2.2.1, 8, .inl d_letters2_114))] rfl ?_
      have e_126 : (0 : Int32).toInt = 0 := by decide
      have e_127 : (999 : Int32).toInt = 999 := by decide
      have iv_128 : IV r_119 0 999 := by have := (show IV 0 0 0 from (by decide)); have := (show IV 999 999 999 from (by decide)); rw [IV]; omega
      refine k_iast [(a_fresh, .inl (g.2.2.1, 311, .inl (upd fa_106 (4 : Int32).toNatClampNeg r_119))), (h0, .inr (11, [.int m_thrown, .ref a_tape, .int m_taped, .int m_size, .int m_at2_110, .int m_end2_111, .int m_token2_117, .int m_whole2_118, .int m_nameSize2_115, .int m_fault2_113, .int m_place2_116, .int m_trouble, .ref a_letters, .int m_failed2_112, .int m_hasHouse, .ref a_r, .ref a_fresh, .ref a_st, .ref a_undone, .ref a_kept, .int m_undos, .int m_images, .ref a_from, .ref a_begin, .ref a_motor, .ref a_change, .ref a_startFrame, .ref a_changeFrame, .ref a_lostAt, .ref a_blackAt, .ref a_slips, .ref a_leftArc, .ref a_died, .ref a_arcs, .int m_bestSum, .int m_nearest, .int m_nearestTown, .ref a_there, .ref a_backAt, .ref a_sorted, .ref a_parts, .int m_seed1, .int m_darkNow])), (a_tape, .inl (g.2.2.1, 900, .inl d_tape)), (a_letters, .inl (g.2.2.1, 8, .inl d_letters2_114))] X dX11_houseLine_113 0 rfl (by unfold vp_in; decide) rfl ?_
      refine (fun hg : ∀ fa_129 : Nat → Int32, RInv fa_129 → Wk p l e _ s m args below meth c _ A g _ _ _ [(a_fresh, .inl (g.2.2.1, 311, .inl fa_129)), (h0, .inr (11, [.int m_thrown, .ref a_tape, .int m_taped, .int m_size, .int m_at2_110, .int m_end2_111, .int m_token2_117, .int m_whole2_118, .int m_nameSize2_115, .int m_fault2_113, .int m_place2_116, .int m_trouble, .ref a_letters, .int m_failed2_112, .int m_hasHouse, .ref a_r, .ref a_fresh, .ref a_st, .ref a_undone, .ref a_kept, .int m_undos, .int m_images, .ref a_from, .ref a_begin, .ref a_motor, .ref a_change, .ref a_startFrame, .ref a_changeFrame, .ref a_lostAt, .ref a_blackAt, .ref a_slips, .ref a_leftArc, .ref a_died, .ref a_arcs, .int m_bestSum, .int m_nearest, .int m_nearestTown, .ref a_there, .ref a_backAt, .ref a_sorted, .ref a_parts, .int m_seed1, .int m_darkNow])), (a_tape, .inl (g.2.2.1, 900, .inl d_tape)), (a_letters, .inl (g.2.2.1, 8, .inl d_letters2_114))] _ _ _ => hg _ (w_fr_4 hR_107)) (fun fa_129 hR_130 => ?_)
      refine k_aload_n X dX11_houseLine_114 0 rfl ?_
      refine k_get (ci := 11) X inlX11 rfl 16 (by decide) dX11_houseLine_115 mw171 1 rfl rfl ?_
      refine k_iconst (v := 5) X dX11_houseLine_118 (by decide) ?_
      refine k_aload_n X dX11_houseLine_119 0 rfl ?_
      refine k_ldcwS (tx := "mend") X dX11_houseLine_120 (by decide +kernel) (fun sr_132 hsr_132 => ?_)
      refine k_iconst (v := 0) X dX11_houseLine_123 (by decide) ?_
      refine k_sipush (v := 999) X dX11_houseLine_124 (by decide) ?_
      refine k_callVI (n := 3) (As := [.ref sr_132, .int 0, .int 999]) (st := [.int 5, .ref a_fresh]) X [(h0, .inr (11, [.int m_thrown, .ref a_tape, .int m_taped, .int m_size, .int m_at2_110, .int m_end2_111, .int m_token2_117, .int m_whole2_118, .int m_nameSize2_115, .int m_fault2_113, .int m_place2_116, .int m_trouble, .ref a_letters, .int m_failed2_112, .int m_hasHouse, .ref a_r, .ref a_fresh, .ref a_st, .ref a_undone, .ref a_kept, .int m_undos, .int m_images, .ref a_from, .ref a_begin, .ref a_motor, .ref a_change, .ref a_startFrame, .ref a_changeFrame, .ref a_lostAt, .ref a_blackAt, .ref a_slips, .ref a_leftArc, .ref a_died, .ref a_arcs, .int m_bestSum, .int m_nearest, .int m_nearestTown, .ref a_there, .ref a_backAt, .ref a_sorted, .ref a_parts, .int m_seed1, .int m_darkNow])), (a_tape, .inl (g.2.2.1, 900, .inl d_tape)), (a_letters, .inl (g.2.2.1, 8, .inl d_letters2_114))] [(a_fresh, .inl (g.2.2.1, 311, .inl fa_129))] [1, 2, 3] [0] (m_after l g h0 sr_132 0 999 m_thrown a_tape m_taped m_size m_at2_110 m_end2_111 m_token2_117 m_whole2_118 m_nameSize2_115 m_fault2_113 m_place2_116 m_trouble a_letters m_failed2_112 m_hasHouse a_r a_fresh a_st a_undone a_kept m_undos m_images a_from a_begin a_motor a_change a_startFrame a_changeFrame a_lostAt a_blackAt a_slips a_leftArc a_died a_arcs m_bestSum m_nearest m_nearestTown a_there a_backAt a_sorted a_parts m_seed1 m_darkNow d_tape d_letters2_114 ("mend") (iv_w hv_m_size (by decide) (by decide)) (iv_w iv_120 (by decide) (by decide)) (iv_w iv_122 (by decide) (by decide)) (iv_w iv_121 (by decide) (by decide)) hsr_132 hk_125) dX11_houseLine_127 mw523 mw524 mw525 mw5 mw526 rfl 11 rfl rfl 0 _ rfl (by unfold yOk; decide) rfl (Nat.le_of_ble_eq_true rfl) (Nat.le_of_ble_eq_true rfl) (Nat.le_of_ble_eq_true rfl) (Nat.le_of_ble_eq_true rfl) (Nat.le_of_ble_eq_true rfl) rfl rfl (by decide) rfl (by decide) (by decide) ?_
      rintro r_142 w ⟨m_at2_133, m_end2_134, m_failed2_135, m_fault2_136, d_letters2_137, m_nameSize2_138, m_place2_139, m_token2_140, m_whole2_141, iv_143, iv_144, iv_145, hq_146, hq_147, hk_148, rfl⟩
      refine k_ws [(a_fresh, .inl (g.2.2.1, 311, .inl fa_129)), (h0, .inr (11, [.int m_thrown, .ref a_tape, .int m_taped, .int m_size, .int m_at2_133, .int m_end2_134, .int m_token2_140, .int m_whole2_141, .int m_nameSize2_138, .int m_fault2_136, .int m_place2_139, .int m_trouble, .ref a_letters, .int m_failed2_135, .int m_hasHouse, .ref a_r, .ref a_fresh, .ref a_st, .ref a_undone, .ref a_kept, .int m_undos, .int m_images, .ref a_from, .ref a_begin, .ref a_motor, .ref a_change, .ref a_startFrame, .ref a_changeFrame, .ref a_lostAt, .ref a_blackAt, .ref a_slips, .ref a_leftArc, .ref a_died, .ref a_arcs, .int m_bestSum, .int m_nearest, .int m_nearestTown, .ref a_there, .ref a_backAt, .ref a_sorted, .ref a_parts, .int m_seed1, .int m_darkNow])), (a_tape, .inl (g.2.2.1, 900, .inl d_tape)), (a_letters, .inl (g.2.2.1, 8, .inl d_letters2_137))] rfl ?_
      have e_149 : (0 : Int32).toInt = 0 := by decide
      have e_150 : (999 : Int32).toInt = 999 := by decide
      have iv_151 : IV r_142 0 999 := by have := (show IV 0 0 0 from (by decide)); have := (show IV 999 999 999 from (by decide)); rw [IV]; omega
      refine k_iast [(a_fresh, .inl (g.2.2.1, 311, .inl (upd fa_129 (5 : Int32).toNatClampNeg r_142))), (h0, .inr (11, [.int m_thrown, .ref a_tape, .int m_taped, .int m_size, .int m_at2_133, .int m_end2_134, .int m_token2_140, .int m_whole2_141, .int m_nameSize2_138, .int m_fault2_136, .int m_place2_139, .int m_trouble, .ref a_letters, .int m_failed2_135, .int m_hasHouse, .ref a_r, .ref a_fresh, .ref a_st, .ref a_undone, .ref a_kept, .int m_undos, .int m_images, .ref a_from, .ref a_begin, .ref a_motor, .ref a_change, .ref a_startFrame, .ref a_changeFrame, .ref a_lostAt, .ref a_blackAt, .ref a_slips, .ref a_leftArc, .ref a_died, .ref a_arcs, .int m_bestSum, .int m_nearest, .int m_nearestTown, .ref a_there, .ref a_backAt, .ref a_sorted, .ref a_parts, .int m_seed1, .int m_darkNow])), (a_tape, .inl (g.2.2.1, 900, .inl d_tape)), (a_letters, .inl (g.2.2.1, 8, .inl d_letters2_137))] X dX11_houseLine_130 0 rfl (by unfold vp_in; decide) rfl ?_
      refine (fun hg : ∀ fa_152 : Nat → Int32, RInv fa_152 → Wk p l e _ s m args below meth c _ A g _ _ _ [(a_fresh, .inl (g.2.2.1, 311, .inl fa_152)), (h0, .inr (11, [.int m_thrown, .ref a_tape, .int m_taped, .int m_size, .int m_at2_133, .int m_end2_134, .int m_token2_140, .int m_whole2_141, .int m_nameSize2_138, .int m_fault2_136, .int m_place2_139, .int m_trouble, .ref a_letters, .int m_failed2_135, .int m_hasHouse, .ref a_r, .ref a_fresh, .ref a_st, .ref a_undone, .ref a_kept, .int m_undos, .int m_images, .ref a_from, .ref a_begin, .ref a_motor, .ref a_change, .ref a_startFrame, .ref a_changeFrame, .ref a_lostAt, .ref a_blackAt, .ref a_slips, .ref a_leftArc, .ref a_died, .ref a_arcs, .int m_bestSum, .int m_nearest, .int m_nearestTown, .ref a_there, .ref a_backAt, .ref a_sorted, .ref a_parts, .int m_seed1, .int m_darkNow])), (a_tape, .inl (g.2.2.1, 900, .inl d_tape)), (a_letters, .inl (g.2.2.1, 8, .inl d_letters2_137))] _ _ _ => hg _ (w_fr_5 hR_130)) (fun fa_152 hR_153 => ?_)
      refine k_aload_n X dX11_houseLine_131 0 rfl ?_
      refine k_get (ci := 11) X inlX11 rfl 13 (by decide) dX11_houseLine_132 mw469 1 rfl rfl ?_
      refine k_if_ne 146 X dX11_houseLine_135 (by decide) (fun h_155 => ?_) (fun h_155 => ?_)
      · skip
        have iv_156 : IV m_failed2_135 1 1 := iv_neL h_155 iv_144 (show IV 0 0 0 from (by decide)) (by decide)
        exact k_vret X hr dX11_houseLine_146 (Nat.le_of_ble_eq_true rfl) (Nat.le_of_ble_eq_true rfl) [1, 2, 3, 0] (by decide) rfl rfl ⟨m_at2_133, m_end2_134, m_failed2_135, m_fault2_136, fa_152, d_letters2_137, m_nameSize2_138, m_place2_139, m_token2_140, m_whole2_141, (iv_w iv_143 (by decide) (by decide)), (iv_w iv_156 (by decide) (by decide)), (iv_w iv_145 (by decide) (by decide)), hR_153, (by omega), hk_148, rfl⟩
      · skip
        have iv_157 : IV m_failed2_135 0 0 := iv_meet iv_144 (iv_e h_155 (show IV 0 0 0 from (by decide))) (by decide) (by decide)
        refine k_aload_n X dX11_houseLine_138 0 rfl ?_
        refine k_get (ci := 11) X inlX11 rfl 16 (by decide) dX11_houseLine_139 mw171 1 rfl rfl ?_
        refine k_bipush (v := 15) X dX11_houseLine_142 (by decide) ?_
        refine k_iconst (v := 1) X dX11_houseLine_144 (by decide) ?_
        refine k_iast [(a_fresh, .inl (g.2.2.1, 311, .inl (upd fa_152 (15 : Int32).toNatClampNeg 1))), (h0, .inr (11, [.int m_thrown, .ref a_tape, .int m_taped, .int m_size, .int m_at2_133, .int m_end2_134, .int m_token2_140, .int m_whole2_141, .int m_nameSize2_138, .int m_fault2_136, .int m_place2_139, .int m_trouble, .ref a_letters, .int m_failed2_135, .int m_hasHouse, .ref a_r, .ref a_fresh, .ref a_st, .ref a_undone, .ref a_kept, .int m_undos, .int m_images, .ref a_from, .ref a_begin, .ref a_motor, .ref a_change, .ref a_startFrame, .ref a_changeFrame, .ref a_lostAt, .ref a_blackAt, .ref a_slips, .ref a_leftArc, .ref a_died, .ref a_arcs, .int m_bestSum, .int m_nearest, .int m_nearestTown, .ref a_there, .ref a_backAt, .ref a_sorted, .ref a_parts, .int m_seed1, .int m_darkNow])), (a_tape, .inl (g.2.2.1, 900, .inl d_tape)), (a_letters, .inl (g.2.2.1, 8, .inl d_letters2_137))] X dX11_houseLine_145 0 rfl (by unfold vp_in; decide) rfl ?_
        refine (fun hg : ∀ fa_158 : Nat → Int32, RInv fa_158 → Wk p l e _ s m args below meth c _ A g _ _ _ [(a_fresh, .inl (g.2.2.1, 311, .inl fa_158)), (h0, .inr (11, [.int m_thrown, .ref a_tape, .int m_taped, .int m_size, .int m_at2_133, .int m_end2_134, .int m_token2_140, .int m_whole2_141, .int m_nameSize2_138, .int m_fault2_136, .int m_place2_139, .int m_trouble, .ref a_letters, .int m_failed2_135, .int m_hasHouse, .ref a_r, .ref a_fresh, .ref a_st, .ref a_undone, .ref a_kept, .int m_undos, .int m_images, .ref a_from, .ref a_begin, .ref a_motor, .ref a_change, .ref a_startFrame, .ref a_changeFrame, .ref a_lostAt, .ref a_blackAt, .ref a_slips, .ref a_leftArc, .ref a_died, .ref a_arcs, .int m_bestSum, .int m_nearest, .int m_nearestTown, .ref a_there, .ref a_backAt, .ref a_sorted, .ref a_parts, .int m_seed1, .int m_darkNow])), (a_tape, .inl (g.2.2.1, 900, .inl d_tape)), (a_letters, .inl (g.2.2.1, 8, .inl d_letters2_137))] _ _ _ => hg _ (w_fr_15 hR_153)) (fun fa_158 hR_159 => ?_)
        exact k_vret X hr dX11_houseLine_146 (Nat.le_of_ble_eq_true rfl) (Nat.le_of_ble_eq_true rfl) [1, 2, 3, 0] (by decide) rfl rfl ⟨m_at2_133, m_end2_134, m_failed2_135, m_fault2_136, fa_158, d_letters2_137, m_nameSize2_138, m_place2_139, m_token2_140, m_whole2_141, (iv_w iv_143 (by decide) (by decide)), (iv_w iv_157 (by decide) (by decide)), (iv_w iv_145 (by decide) (by decide)), hR_159, (by omega), hk_148, rfl⟩
    · skip
      have iv_161 : IV m_failed 1 1 := iv_neL h_3 hv_m_failed (show IV 0 0 0 from (by decide)) (by decide)
      exact k_vret X hr dX11_houseLine_27 (Nat.le_of_ble_eq_true rfl) (Nat.le_of_ble_eq_true rfl) [0, 1, 2, 3] (by decide) rfl rfl ⟨m_at, m_end, m_failed, m_fault, d_fresh, d_letters, m_nameSize, m_place, m_token, m_whole, (iv_w hv_m_end (by decide) (by decide)), (iv_w iv_161 (by decide) (by decide)), (iv_w hv_m_nameSize (by decide) (by decide)), hp_d_fresh, (by omega), hc_0, rfl⟩
  · skip
    have iv_162 : IV z_1 1 1 := iv_meet (iv_any z_1) (iv_e h_2 (show IV 1 1 1 from (by decide))) (by decide) (by decide)
    refine k_aload_n X dX11_houseLine_11 0 rfl ?_
    refine k_iconst (v := 3) X dX11_houseLine_12 (by decide) ?_
    refine k_aload_n X dX11_houseLine_13 0 rfl ?_
    refine k_get (ci := 11) X inlX11 rfl 4 (by decide) dX11_houseLine_14 mw473 0 rfl rfl ?_
    refine k_callVV (n := 2) (As := [.int 3, .int m_at]) (st := []) X [(h0, .inr (11, [.int m_thrown, .ref a_tape, .int m_taped, .int m_size, .int m_at, .int m_end, .int m_token, .int m_whole, .int m_nameSize, .int m_fault, .int m_place, .int m_trouble, .ref a_letters, .int m_failed, .int m_hasHouse, .ref a_r, .ref a_fresh, .ref a_st, .ref a_undone, .ref a_kept, .int m_undos, .int m_images, .ref a_from, .ref a_begin, .ref a_motor, .ref a_change, .ref a_startFrame, .ref a_changeFrame, .ref a_lostAt, .ref a_blackAt, .ref a_slips, .ref a_leftArc, .ref a_died, .ref a_arcs, .int m_bestSum, .int m_nearest, .int m_nearestTown, .ref a_there, .ref a_backAt, .ref a_sorted, .ref a_parts, .int m_seed1, .int m_darkNow]))] [(a_tape, .inl (g.2.2.1, 900, .inl d_tape)), (a_letters, .inl (g.2.2.1, 8, .inl d_letters)), (a_fresh, .inl (g.2.2.1, 311, .inl d_fresh))] [0] [1, 2, 3] (m_bad l g h0 3 m_at m_thrown a_tape m_taped m_size m_at m_end m_token m_whole m_nameSize m_fault m_place m_trouble a_letters m_failed m_hasHouse a_r a_fresh a_st a_undone a_kept m_undos m_images a_from a_begin a_motor a_change a_startFrame a_changeFrame a_lostAt a_blackAt a_slips a_leftArc a_died a_arcs m_bestSum m_nearest m_nearestTown a_there a_backAt a_sorted a_parts m_seed1 m_darkNow (iv_w hv_m_failed (by decide) (by decide))) dX11_houseLine_17 mw519 mw520 mw521 mw5 mw522 rfl 11 rfl rfl 0 _ rfl (by unfold yOk; decide) rfl (Nat.le_of_ble_eq_true rfl) (Nat.le_of_ble_eq_true rfl) (Nat.le_of_ble_eq_true rfl) (Nat.le_of_ble_eq_true rfl) (Nat.le_of_ble_eq_true rfl) rfl rfl (by decide) rfl (by decide) (by decide) ?_
    rintro w ⟨m_failed2_163, m_fault2_164, m_place2_165, iv_167, rfl⟩
    refine k_ws [(a_tape, .inl (g.2.2.1, 900, .inl d_tape)), (a_letters, .inl (g.2.2.1, 8, .inl d_letters)), (a_fresh, .inl (g.2.2.1, 311, .inl d_fresh)), (h0, .inr (11, [.int m_thrown, .ref a_tape, .int m_taped, .int m_size, .int m_at, .int m_end, .int m_token, .int m_whole, .int m_nameSize, .int m_fault2_164, .int m_place2_165, .int m_trouble, .ref a_letters, .int m_failed2_163, .int m_hasHouse, .ref a_r, .ref a_fresh, .ref a_st, .ref a_undone, .ref a_kept, .int m_undos, .int m_images, .ref a_from, .ref a_begin, .ref a_motor, .ref a_change, .ref a_startFrame, .ref a_changeFrame, .ref a_lostAt, .ref a_blackAt, .ref a_slips, .ref a_leftArc, .ref a_died, .ref a_arcs, .int m_bestSum, .int m_nearest, .int m_nearestTown, .ref a_there, .ref a_backAt, .ref a_sorted, .ref a_parts, .int m_seed1, .int m_darkNow]))] rfl ?_
    refine k_aload_n X dX11_houseLine_20 0 rfl ?_
    refine k_get (ci := 11) X inlX11 rfl 13 (by decide) dX11_houseLine_21 mw469 3 rfl rfl ?_
    refine k_if_eq 28 X dX11_houseLine_24 (by decide) (fun h_168 => (iv_eqN h_168 iv_167 (show IV 0 0 0 from (by decide)) (by decide)).elim) (fun h_168 => ?_)
    exact k_vret X hr dX11_houseLine_27 (Nat.le_of_ble_eq_true rfl) (Nat.le_of_ble_eq_true rfl) [3, 0, 1, 2] (by decide) rfl rfl ⟨m_at, m_end, m_failed2_163, m_fault2_164, d_fresh, d_letters, m_nameSize, m_place2_165, m_token, m_whole, (iv_w hv_m_end (by decide) (by decide)), (iv_w iv_167 (by decide) (by decide)), (iv_w hv_m_nameSize (by decide) (by decide)), hp_d_fresh, (by omega), hc_0, rfl⟩

theorem dX11_reelLine_0 : decode cX11_reelLine 0 = .ok (.aload_n 0, 1) := by decide +kernel
theorem dX11_reelLine_1 : decode cX11_reelLine 1 = .ok (.getfield 121, 3) := by decide +kernel
theorem dX11_reelLine_4 : decode cX11_reelLine 4 = .ok (.ifCond .eq 4, 3) := by decide +kernel
theorem dX11_reelLine_7 : decode cX11_reelLine 7 = .ok (.return_, 1) := by decide +kernel
theorem dX11_reelLine_8 : decode cX11_reelLine 8 = .ok (.bipush 16, 2) := by decide +kernel
theorem dX11_reelLine_10 : decode cX11_reelLine 10 = .ok (.iconst 3, 1) := by decide +kernel
theorem dX11_reelLine_11 : decode cX11_reelLine 11 = .ok (.aload_n 0, 1) := by decide +kernel
theorem dX11_reelLine_12 : decode cX11_reelLine 12 = .ok (.getfield 23, 3) := by decide +kernel
theorem dX11_reelLine_15 : decode cX11_reelLine 15 = .ok (.bipush 6, 2) := by decide +kernel
theorem dX11_reelLine_17 : decode cX11_reelLine 17 = .ok (.iaload, 1) := by decide +kernel
theorem dX11_reelLine_18 : decode cX11_reelLine 18 = .ok (.imul, 1) := by decide +kernel
theorem dX11_reelLine_19 : decode cX11_reelLine 19 = .ok (.iadd, 1) := by decide +kernel
theorem dX11_reelLine_20 : decode cX11_reelLine 20 = .ok (.istore_n 1, 1) := by decide +kernel
theorem dX11_reelLine_21 : decode cX11_reelLine 21 = .ok (.aload_n 0, 1) := by decide +kernel
theorem dX11_reelLine_22 : decode cX11_reelLine 22 = .ok (.aload_n 0, 1) := by decide +kernel
theorem dX11_reelLine_23 : decode cX11_reelLine 23 = .ok (.getfield 23, 3) := by decide +kernel
theorem dX11_reelLine_26 : decode cX11_reelLine 26 = .ok (.bipush 6, 2) := by decide +kernel
theorem dX11_reelLine_28 : decode cX11_reelLine 28 = .ok (.iaload, 1) := by decide +kernel
theorem dX11_reelLine_29 : decode cX11_reelLine 29 = .ok (.invokevirtual 277, 3) := by decide +kernel
theorem dX11_reelLine_32 : decode cX11_reelLine 32 = .ok (.aload_n 0, 1) := by decide +kernel
theorem dX11_reelLine_33 : decode cX11_reelLine 33 = .ok (.getfield 23, 3) := by decide +kernel
theorem dX11_reelLine_36 : decode cX11_reelLine 36 = .ok (.iload_n 1, 1) := by decide +kernel
theorem dX11_reelLine_37 : decode cX11_reelLine 37 = .ok (.aload_n 0, 1) := by decide +kernel
theorem dX11_reelLine_38 : decode cX11_reelLine 38 = .ok (.ldc_w 281, 3) := by decide +kernel
theorem dX11_reelLine_41 : decode cX11_reelLine 41 = .ok (.iconst 2, 1) := by decide +kernel
theorem dX11_reelLine_42 : decode cX11_reelLine 42 = .ok (.sipush 2000, 3) := by decide +kernel
theorem dX11_reelLine_45 : decode cX11_reelLine 45 = .ok (.invokevirtual 264, 3) := by decide +kernel
theorem dX11_reelLine_48 : decode cX11_reelLine 48 = .ok (.iastore, 1) := by decide +kernel
theorem dX11_reelLine_49 : decode cX11_reelLine 49 = .ok (.aload_n 0, 1) := by decide +kernel
theorem dX11_reelLine_50 : decode cX11_reelLine 50 = .ok (.getfield 23, 3) := by decide +kernel
theorem dX11_reelLine_53 : decode cX11_reelLine 53 = .ok (.iload_n 1, 1) := by decide +kernel
theorem dX11_reelLine_54 : decode cX11_reelLine 54 = .ok (.iconst 1, 1) := by decide +kernel
theorem dX11_reelLine_55 : decode cX11_reelLine 55 = .ok (.iadd, 1) := by decide +kernel
theorem dX11_reelLine_56 : decode cX11_reelLine 56 = .ok (.aload_n 0, 1) := by decide +kernel
theorem dX11_reelLine_57 : decode cX11_reelLine 57 = .ok (.ldc_w 283, 3) := by decide +kernel
theorem dX11_reelLine_60 : decode cX11_reelLine 60 = .ok (.iconst 0, 1) := by decide +kernel
theorem dX11_reelLine_61 : decode cX11_reelLine 61 = .ok (.aload_n 0, 1) := by decide +kernel
theorem dX11_reelLine_62 : decode cX11_reelLine 62 = .ok (.getfield 23, 3) := by decide +kernel
theorem dX11_reelLine_65 : decode cX11_reelLine 65 = .ok (.iload_n 1, 1) := by decide +kernel
theorem dX11_reelLine_66 : decode cX11_reelLine 66 = .ok (.iaload, 1) := by decide +kernel
theorem dX11_reelLine_67 : decode cX11_reelLine 67 = .ok (.iconst 1, 1) := by decide +kernel
theorem dX11_reelLine_68 : decode cX11_reelLine 68 = .ok (.isub, 1) := by decide +kernel
theorem dX11_reelLine_69 : decode cX11_reelLine 69 = .ok (.invokevirtual 264, 3) := by decide +kernel
theorem dX11_reelLine_72 : decode cX11_reelLine 72 = .ok (.iastore, 1) := by decide +kernel
theorem dX11_reelLine_73 : decode cX11_reelLine 73 = .ok (.aload_n 0, 1) := by decide +kernel
theorem dX11_reelLine_74 : decode cX11_reelLine 74 = .ok (.getfield 23, 3) := by decide +kernel
theorem dX11_reelLine_77 : decode cX11_reelLine 77 = .ok (.iload_n 1, 1) := by decide +kernel
theorem dX11_reelLine_78 : decode cX11_reelLine 78 = .ok (.iconst 2, 1) := by decide +kernel
theorem dX11_reelLine_79 : decode cX11_reelLine 79 = .ok (.iadd, 1) := by decide +kernel
theorem dX11_reelLine_80 : decode cX11_reelLine 80 = .ok (.aload_n 0, 1) := by decide +kernel
theorem dX11_reelLine_81 : decode cX11_reelLine 81 = .ok (.ldc_w 285, 3) := by decide +kernel
theorem dX11_reelLine_84 : decode cX11_reelLine 84 = .ok (.aload_n 0, 1) := by decide +kernel
theorem dX11_reelLine_85 : decode cX11_reelLine 85 = .ok (.getfield 23, 3) := by decide +kernel
theorem dX11_reelLine_88 : decode cX11_reelLine 88 = .ok (.iload_n 1, 1) := by decide +kernel
theorem dX11_reelLine_89 : decode cX11_reelLine 89 = .ok (.iaload, 1) := by decide +kernel
theorem dX11_reelLine_90 : decode cX11_reelLine 90 = .ok (.sipush 2000, 3) := by decide +kernel
theorem dX11_reelLine_93 : decode cX11_reelLine 93 = .ok (.invokevirtual 264, 3) := by decide +kernel
theorem dX11_reelLine_96 : decode cX11_reelLine 96 = .ok (.iastore, 1) := by decide +kernel
theorem dX11_reelLine_97 : decode cX11_reelLine 97 = .ok (.aload_n 0, 1) := by decide +kernel
theorem dX11_reelLine_98 : decode cX11_reelLine 98 = .ok (.getfield 121, 3) := by decide +kernel
theorem dX11_reelLine_101 : decode cX11_reelLine 101 = .ok (.ifCond .ne 14, 3) := by decide +kernel
theorem dX11_reelLine_104 : decode cX11_reelLine 104 = .ok (.aload_n 0, 1) := by decide +kernel
theorem dX11_reelLine_105 : decode cX11_reelLine 105 = .ok (.getfield 23, 3) := by decide +kernel
theorem dX11_reelLine_108 : decode cX11_reelLine 108 = .ok (.bipush 6, 2) := by decide +kernel
theorem dX11_reelLine_110 : decode cX11_reelLine 110 = .ok (.dup2, 1) := by decide +kernel
theorem dX11_reelLine_111 : decode cX11_reelLine 111 = .ok (.iaload, 1) := by decide +kernel
theorem dX11_reelLine_112 : decode cX11_reelLine 112 = .ok (.iconst 1, 1) := by decide +kernel
theorem dX11_reelLine_113 : decode cX11_reelLine 113 = .ok (.iadd, 1) := by decide +kernel
theorem dX11_reelLine_114 : decode cX11_reelLine 114 = .ok (.iastore, 1) := by decide +kernel
theorem dX11_reelLine_115 : decode cX11_reelLine 115 = .ok (.return_, 1) := by decide +kernel
set_option maxHeartbeats 4000000 in
set_option maxRecDepth 100000 in
theorem m_reelLine (l : Launch) (g : Gx) (h0 : Nat) (m_thrown : Int32) (a_tape : Nat) (m_taped : Int32) (m_size : Int32) (m_at : Int32) (m_end : Int32) (m_token : Int32) (m_whole : Int32) (m_nameSize : Int32) (m_fault : Int32) (m_place : Int32) (m_trouble : Int32) (a_letters : Nat) (m_failed : Int32) (m_hasHouse : Int32) (a_r : Nat) (a_fresh : Nat) (a_st : Nat) (a_undone : Nat) (a_kept : Nat) (m_undos : Int32) (m_images : Int32) (a_from : Nat) (a_begin : Nat) (a_motor : Nat) (a_change : Nat) (a_startFrame : Nat) (a_changeFrame : Nat) (a_lostAt : Nat) (a_blackAt : Nat) (a_slips : Nat) (a_leftArc : Nat) (a_died : Nat) (a_arcs : Nat) (m_bestSum : Int32) (m_nearest : Int32) (m_nearestTown : Int32) (a_there : Nat) (a_backAt : Nat) (a_sorted : Nat) (a_parts : Nat) (m_seed1 : Int32) (m_darkNow : Int32) (d_tape : Nat → Int32) (d_letters : Nat → Int32) (d_fresh : Nat → Int32) (hv_m_size : IV m_size 0 900) (hv_m_end : IV m_end 0 900) (hv_m_nameSize : IV m_nameSize 0 900) (hv_m_failed : IV m_failed 0 1) (hp_d_fresh : RInv d_fresh) (hc_0 : m_failed = 1 ∨ ((d_fresh 6).toInt ≤ 7)) (hc_1 : m_token = 2 → IV m_nameSize 0 8) : cV l g yX11_reelLine cX11_reelLine 2 8 173 0 0 [.ref h0] [(h0, .inr (11, [.int m_thrown, .ref a_tape, .int m_taped, .int m_size, .int m_at, .int m_end, .int m_token, .int m_whole, .int m_nameSize, .int m_fault, .int m_place, .int m_trouble, .ref a_letters, .int m_failed, .int m_hasHouse, .ref a_r, .ref a_fresh, .ref a_st, .ref a_undone, .ref a_kept, .int m_undos, .int m_images, .ref a_from, .ref a_begin, .ref a_motor, .ref a_change, .ref a_startFrame, .ref a_changeFrame, .ref a_lostAt, .ref a_blackAt, .ref a_slips, .ref a_leftArc, .ref a_died, .ref a_arcs, .int m_bestSum, .int m_nearest, .int m_nearestTown, .ref a_there, .ref a_backAt, .ref a_sorted, .ref a_parts, .int m_seed1, .int m_darkNow])), (a_tape, .inl (g.2.2.1, 900, .inl d_tape)), (a_letters, .inl (g.2.2.1, 8, .inl d_letters)), (a_fresh, .inl (g.2.2.1, 311, .inl d_fresh))] (fun w => ∃ (m_at2 : Int32) (m_end2 : Int32) (m_failed2 : Int32) (m_fault2 : Int32) (d_fresh2 : Nat → Int32) (d_letters2 : Nat → Int32) (m_nameSize2 : Int32) (m_place2 : Int32) (m_token2 : Int32) (m_whole2 : Int32), IV m_end2 0 900 ∧ IV m_failed2 0 1 ∧ IV m_nameSize2 0 900 ∧ RInv d_fresh2 ∧ (m_end.toInt ≤ m_end2.toInt) ∧ (m_token2 = 2 → IV m_nameSize2 0 8) ∧ w = [(h0, .inr (11, [.int m_thrown, .ref a_tape, .int m_taped, .int m_size, .int m_at2, .int m_end2, .int m_token2, .int m_whole2, .int m_nameSize2, .int m_fault2, .int m_place2, .int m_trouble, .ref a_letters, .int m_failed2, .int m_hasHouse, .ref a_r, .ref a_fresh, .ref a_st, .ref a_undone, .ref a_kept, .int m_undos, .int m_images, .ref a_from, .ref a_begin, .ref a_motor, .ref a_change, .ref a_startFrame, .ref a_changeFrame, .ref a_lostAt, .ref a_blackAt, .ref a_slips, .ref a_leftArc, .ref a_died, .ref a_arcs, .int m_bestSum, .int m_nearest, .int m_nearestTown, .ref a_there, .ref a_backAt, .ref a_sorted, .ref a_parts, .int m_seed1, .int m_darkNow])), (a_tape, .inl (g.2.2.1, 900, .inl d_tape)), (a_letters, .inl (g.2.2.1, 8, .inl d_letters2)), (a_fresh, .inl (g.2.2.1, 311, .inl d_fresh2))]) := by
  refine cV.of (by decide) (Nat.le_of_ble_eq_true rfl) ?_
  intro p e s m args below meth c A X hr hi
  refine k_lveq [(0, .ref h0)] rfl ?_
  refine k_aload_n X dX11_reelLine_0 0 rfl ?_
  refine k_get (ci := 11) X inlX11 rfl 13 (by decide) dX11_reelLine_1 mw469 0 rfl rfl ?_
  refine k_if_eq 8 X dX11_reelLine_4 (by decide) (fun h_1 => ?_) (fun h_1 => ?_)
  · skip
    have iv_2 : IV m_failed 0 0 := iv_meet hv_m_failed (iv_e h_1 (show IV 0 0 0 from (by decide))) (by decide) (by decide)
    have hc_3 := hc_0.resolve_left (fun q => iv_eqN q iv_2 (show IV 1 1 1 from (by decide)) (by decide))
    have j_4 : (d_fresh 6).toInt ≤ 7 := hc_3
    refine k_bipush (v := 16) X dX11_reelLine_8 (by decide) ?_
    refine k_iconst (v := 3) X dX11_reelLine_10 (by decide) ?_
    refine k_aload_n X dX11_reelLine_11 0 rfl ?_
    refine k_get (ci := 11) X inlX11 rfl 16 (by decide) dX11_reelLine_12 mw171 0 rfl rfl ?_
    refine k_bipush (v := 6) X dX11_reelLine_15 (by decide) ?_
    refine k_iald X dX11_reelLine_17 3 rfl (by unfold vp_in; decide) ?_
    refine k_nm (fun z_5 ez_5 => ?_)
    have i_6 : z_5.toInt = (d_fresh 6).toInt := by rw [ez_5]; rfl
    have iv_7 : IV z_5 0 7 := by have := rb_6 ez_5 hp_d_fresh; rw [IV]; omega
    refine k_imul X dX11_reelLine_18 ?_
    refine k_nm (fun z_8 ez_8 => ?_)
    have i_9 : z_8.toInt = 3 * z_5.toInt := in_mul ez_8 (by decide) (by decide) iv_7 (by decide) (by decide)
    have iv_10 : IV z_8 0 21 := by have := (show IV 3 3 3 from (by decide)); have := iv_7; rw [IV, i_9]; omega
    refine k_iadd X dX11_reelLine_19 ?_
    refine k_nm (fun z_11 ez_11 => ?_)
    have i_12 : z_11.toInt = 16 + z_8.toInt := in_add ez_11 (show IV 16 16 16 from (by decide)) iv_10 (by decide) (by decide)
    have iv_13 : IV z_11 16 37 := by have := (show IV 16 16 16 from (by decide)); have := iv_10; rw [IV, i_12]; omega
    refine k_istore_n [(1, .int z_11), (0, .ref h0)] X dX11_reelLine_20 (by decide) rfl ?_
    refine k_aload_n X dX11_reelLine_21 1 rfl ?_
    refine k_aload_n X dX11_reelLine_22 1 rfl ?_
    refine k_get (ci := 11) X inlX11 rfl 16 (by decide) dX11_reelLine_23 mw171 0 rfl rfl ?_
    refine k_bipush (v := 6) X dX11_reelLine_26 (by decide) ?_
    refine k_iald X dX11_reelLine_28 3 rfl (by unfold vp_in; decide) ?_
    refine k_to z_5 ez_5.symm ?_
    refine k_callVV (n := 1) (As := [.int z_5]) (st := []) X [(h0, .inr (11, [.int m_thrown, .ref a_tape, .int m_taped, .int m_size, .int m_at, .int m_end, .int m_token, .int m_whole, .int m_nameSize, .int m_fault, .int m_place, .int m_trouble, .ref a_letters, .int m_failed, .int m_hasHouse, .ref a_r, .ref a_fresh, .ref a_st, .ref a_undone, .ref a_kept, .int m_undos, .int m_images, .ref a_from, .ref a_begin, .ref a_motor, .ref a_change, .ref a_startFrame, .ref a_changeFrame, .ref a_lostAt, .ref a_blackAt, .ref a_slips, .ref a_leftArc, .ref a_died, .ref a_arcs, .int m_bestSum, .int m_nearest, .int m_nearestTown, .ref a_there, .ref a_backAt, .ref a_sorted, .ref a_parts, .int m_seed1, .int m_darkNow])), (a_tape, .inl (g.2.2.1, 900, .inl d_tape)), (a_letters, .inl (g.2.2.1, 8, .inl d_letters)), (a_fresh, .inl (g.2.2.1, 311, .inl d_fresh))] [] [0, 1, 2, 3] [] (m_newName l g h0 z_5 m_thrown a_tape m_taped m_size m_at m_end m_token m_whole m_nameSize m_fault m_place m_trouble a_letters m_failed m_hasHouse a_r a_fresh a_st a_undone a_kept m_undos m_images a_from a_begin a_motor a_change a_startFrame a_changeFrame a_lostAt a_blackAt a_slips a_leftArc a_died a_arcs m_bestSum m_nearest m_nearestTown a_there a_backAt a_sorted a_parts m_seed1 m_darkNow d_tape d_letters d_fresh (iv_w iv_7 (by decide) (by decide)) (iv_w hv_m_size (by decide) (by decide)) (iv_w hv_m_end (by decide) (by decide)) (iv_w hv_m_nameSize (by decide) (by decide)) (iv_w iv_2 (by decide) (by decide)) hp_d_fresh hc_1) dX11_reelLine_29 mw551 mw552 mw553 mw5 mw554 rfl 11 rfl rfl 0 _ rfl (by unfold yOk; decide) rfl (Nat.le_of_ble_eq_true rfl) (Nat.le_of_ble_eq_true rfl) (Nat.le_of_ble_eq_true rfl) (Nat.le_of_ble_eq_true rfl) (Nat.le_of_ble_eq_true rfl) rfl rfl (by decide) rfl (by decide) (by decide) ?_
    rintro w ⟨m_at2_14, m_end2_15, m_failed2_16, m_fault2_17, d_fresh2_18, d_letters2_19, m_nameSize2_20, m_place2_21, m_token2_22, m_whole2_23, iv_25, iv_26, iv_27, hp_28, hq_29, hq_30, hk_31, rfl⟩
    refine k_ws [(h0, .inr (11, [.int m_thrown, .ref a_tape, .int m_taped, .int m_size, .int m_at2_14, .int m_end2_15, .int m_token2_22, .int m_whole2_23, .int m_nameSize2_20, .int m_fault2_17, .int m_place2_21, .int m_trouble, .ref a_letters, .int m_failed2_16, .int m_hasHouse, .ref a_r, .ref a_fresh, .ref a_st, .ref a_undone, .ref a_kept, .int m_undos, .int m_images, .ref a_from, .ref a_begin, .ref a_motor, .ref a_change, .ref a_startFrame, .ref a_changeFrame, .ref a_lostAt, .ref a_blackAt, .ref a_slips, .ref a_leftArc, .ref a_died, .ref a_arcs, .int m_bestSum, .int m_nearest, .int m_nearestTown, .ref a_there, .ref a_backAt, .ref a_sorted, .ref a_parts, .int m_seed1, .int m_darkNow])), (a_tape, .inl (g.2.2.1, 900, .inl d_tape)), (a_letters, .inl (g.2.2.1, 8, .inl d_letters2_19)), (a_fresh, .inl (g.2.2.1, 311, .inl d_fresh2_18))] rfl ?_
    have ek_32 : z_5 = d_fresh2_18 (6 : Int32).toNatClampNeg := ez_5.trans (hq_29 _ (by decide)).symm
    refine k_aload_n X dX11_reelLine_32 1 rfl ?_
    refine k_get (ci := 11) X inlX11 rfl 16 (by decide) dX11_reelLine_33 mw171 0 rfl rfl ?_
    refine k_iload_n X dX11_reelLine_36 0 rfl ?_
    refine k_aload_n X dX11_reelLine_37 1 rfl ?_
    refine k_ldcwS (tx := "frames") X dX11_reelLine_38 (by decide +kernel) (fun sr_33 hsr_33 => ?_)
    refine k_iconst (v := 2) X dX11_reelLine_41 (by decide) ?_
    refine k_sipush (v := 2000) X dX11_reelLine_42 (by decide) ?_
    refine k_callVI (n := 3) (As := [.ref sr_33, .int 2, .int 2000]) (st := [.int z_11, .ref a_fresh]) X [(h0, .inr (11, [.int m_thrown, .ref a_tape, .int m_taped, .int m_size, .int m_at2_14, .int m_end2_15, .int m_token2_22, .int m_whole2_23, .int m_nameSize2_20, .int m_fault2_17, .int m_place2_21, .int m_trouble, .ref a_letters, .int m_failed2_16, .int m_hasHouse, .ref a_r, .ref a_fresh, .ref a_st, .ref a_undone, .ref a_kept, .int m_undos, .int m_images, .ref a_from, .ref a_begin, .ref a_motor, .ref a_change, .ref a_startFrame, .ref a_changeFrame, .ref a_lostAt, .ref a_blackAt, .ref a_slips, .ref a_leftArc, .ref a_died, .ref a_arcs, .int m_bestSum, .int m_nearest, .int m_nearestTown, .ref a_there, .ref a_backAt, .ref a_sorted, .ref a_parts, .int m_seed1, .int m_darkNow])), (a_tape, .inl (g.2.2.1, 900, .inl d_tape)), (a_letters, .inl (g.2.2.1, 8, .inl d_letters2_19))] [(a_fresh, .inl (g.2.2.1, 311, .inl d_fresh2_18))] [0, 1, 2] [3] (m_after l g h0 sr_33 2 2000 m_thrown a_tape m_taped m_size m_at2_14 m_end2_15 m_token2_22 m_whole2_23 m_nameSize2_20 m_fault2_17 m_place2_21 m_trouble a_letters m_failed2_16 m_hasHouse a_r a_fresh a_st a_undone a_kept m_undos m_images a_from a_begin a_motor a_change a_startFrame a_changeFrame a_lostAt a_blackAt a_slips a_leftArc a_died a_arcs m_bestSum m_nearest m_nearestTown a_there a_backAt a_sorted a_parts m_seed1 m_darkNow d_tape d_letters2_19 ("frames") (iv_w hv_m_size (by decide) (by decide)) (iv_w iv_25 (by decide) (by decide)) (iv_w iv_27 (by decide) (by decide)) (iv_w iv_26 (by decide) (by decide)) hsr_33 hk_31) dX11_reelLine_45 mw523 mw524 mw525 mw5 mw526 rfl 11 rfl rfl 0 _ rfl (by unfold yOk; decide) rfl (Nat.le_of_ble_eq_true rfl) (Nat.le_of_ble_eq_true rfl) (Nat.le_of_ble_eq_true rfl) (Nat.le_of_ble_eq_true rfl) (Nat.le_of_ble_eq_true rfl) rfl rfl (by decide) rfl (by decide) (by decide) ?_
    rintro r_43 w ⟨m_at2_34, m_end2_35, m_failed2_36, m_fault2_37, d_letters2_38, m_nameSize2_39, m_place2_40, m_token2_41, m_whole2_42, iv_44, iv_45, iv_46, hq_47, hq_48, hk_49, rfl⟩
    refine k_ws [(a_fresh, .inl (g.2.2.1, 311, .inl d_fresh2_18)), (h0, .inr (11, [.int m_thrown, .ref a_tape, .int m_taped, .int m_size, .int m_at2_34, .int m_end2_35, .int m_token2_41, .int m_whole2_42, .int m_nameSize2_39, .int m_fault2_37, .int m_place2_40, .int m_trouble, .ref a_letters, .int m_failed2_36, .int m_hasHouse, .ref a_r, .ref a_fresh, .ref a_st, .ref a_undone, .ref a_kept, .int m_undos, .int m_images, .ref a_from, .ref a_begin, .ref a_motor, .ref a_change, .ref a_startFrame, .ref a_changeFrame, .ref a_lostAt, .ref a_blackAt, .ref a_slips, .ref a_leftArc, .ref a_died, .ref a_arcs, .int m_bestSum, .int m_nearest, .int m_nearestTown, .ref a_there, .ref a_backAt, .ref a_sorted, .ref a_parts, .int m_seed1, .int m_darkNow])), (a_tape, .inl (g.2.2.1, 900, .inl d_tape)), (a_letters, .inl (g.2.2.1, 8, .inl d_letters2_38))] rfl ?_
    have e_50 : (2 : Int32).toInt = 2 := by decide
    have e_51 : (2000 : Int32).toInt = 2000 := by decide
    have iv_52 : IV r_43 2 2000 := by have := (show IV 2 2 2 from (by decide)); have := (show IV 2000 2000 2000 from (by decide)); rw [IV]; omega
    refine k_iast [(a_fresh, .inl (g.2.2.1, 311, .inl (upd d_fresh2_18 (z_11 : Int32).toNatClampNeg r_43))), (h0, .inr (11, [.int m_thrown, .ref a_tape, .int m_taped, .int m_size, .int m_at2_34, .int m_end2_35, .int m_token2_41, .int m_whole2_42, .int m_nameSize2_39, .int m_fault2_37, .int m_place2_40, .int m_trouble, .ref a_letters, .int m_failed2_36, .int m_hasHouse, .ref a_r, .ref a_fresh, .ref a_st, .ref a_undone, .ref a_kept, .int m_undos, .int m_images, .ref a_from, .ref a_begin, .ref a_motor, .ref a_change, .ref a_startFrame, .ref a_changeFrame, .ref a_lostAt, .ref a_blackAt, .ref a_slips, .ref a_leftArc, .ref a_died, .ref a_arcs, .int m_bestSum, .int m_nearest, .int m_nearestTown, .ref a_there, .ref a_backAt, .ref a_sorted, .ref a_parts, .int m_seed1, .int m_darkNow])), (a_tape, .inl (g.2.2.1, 900, .inl d_tape)), (a_letters, .inl (g.2.2.1, 8, .inl d_letters2_38))] X dX11_reelLine_48 0 rfl (iv_in iv_13 (by decide) (by decide)) rfl ?_
    have i_55 : z_11.toInt = 16 + 3 * z_5.toInt := by omega
    refine (fun hg : ∀ fa_53 : Nat → Int32, RInv fa_53 → K16 d_fresh2_18 fa_53 → Wk p l e _ s m args below meth c _ A g _ _ _ [(a_fresh, .inl (g.2.2.1, 311, .inl fa_53)), (h0, .inr (11, [.int m_thrown, .ref a_tape, .int m_taped, .int m_size, .int m_at2_34, .int m_end2_35, .int m_token2_41, .int m_whole2_42, .int m_nameSize2_39, .int m_fault2_37, .int m_place2_40, .int m_trouble, .ref a_letters, .int m_failed2_36, .int m_hasHouse, .ref a_r, .ref a_fresh, .ref a_st, .ref a_undone, .ref a_kept, .int m_undos, .int m_images, .ref a_from, .ref a_begin, .ref a_motor, .ref a_change, .ref a_startFrame, .ref a_changeFrame, .ref a_lostAt, .ref a_blackAt, .ref a_slips, .ref a_leftArc, .ref a_died, .ref a_arcs, .int m_bestSum, .int m_nearest, .int m_nearestTown, .ref a_there, .ref a_backAt, .ref a_sorted, .ref a_parts, .int m_seed1, .int m_darkNow])), (a_tape, .inl (g.2.2.1, 900, .inl d_tape)), (a_letters, .inl (g.2.2.1, 8, .inl d_letters2_38))] _ _ _ => hg _ (w_fr_16_3 hp_28 i_55 (iv_w iv_7 (by decide) (by decide))) (k16_u (by have := iv_13; omega))) (fun fa_53 hR_54 hk_56 => ?_)
    have ek_57 : z_5 = fa_53 (6 : Int32).toNatClampNeg := ek_32.trans (hk_56 _ (by decide)).symm
    refine k_aload_n X dX11_reelLine_49 1 rfl ?_
    refine k_get (ci := 11) X inlX11 rfl 16 (by decide) dX11_reelLine_50 mw171 1 rfl rfl ?_
    refine k_iload_n X dX11_reelLine_53 0 rfl ?_
    refine k_iconst (v := 1) X dX11_reelLine_54 (by decide) ?_
    refine k_iadd X dX11_reelLine_55 ?_
    refine k_nm (fun z_58 ez_58 => ?_)
    have i_59 : z_58.toInt = z_11.toInt + 1 := in_add ez_58 iv_13 (show IV 1 1 1 from (by decide)) (by decide) (by decide)
    have iv_60 : IV z_58 17 38 := by have := iv_13; have := (show IV 1 1 1 from (by decide)); rw [IV, i_59]; omega
    refine k_aload_n X dX11_reelLine_56 1 rfl ?_
    refine k_ldcwS (tx := "first") X dX11_reelLine_57 (by decide +kernel) (fun sr_61 hsr_61 => ?_)
    refine k_iconst (v := 0) X dX11_reelLine_60 (by decide) ?_
    refine k_aload_n X dX11_reelLine_61 1 rfl ?_
    refine k_get (ci := 11) X inlX11 rfl 16 (by decide) dX11_reelLine_62 mw171 1 rfl rfl ?_
    refine k_iload_n X dX11_reelLine_65 0 rfl ?_
    refine k_iald X dX11_reelLine_66 0 rfl (iv_in iv_13 (by decide) (by decide)) ?_
    refine k_nm (fun z_62 ez_62 => ?_)
    refine k_iconst (v := 1) X dX11_reelLine_67 (by decide) ?_
    refine k_isub X dX11_reelLine_68 ?_
    refine k_nm (fun z_63 ez_63 => ?_)
    refine k_callVI (n := 3) (As := [.ref sr_61, .int 0, .int z_63]) (st := [.int z_58, .ref a_fresh]) X [(h0, .inr (11, [.int m_thrown, .ref a_tape, .int m_taped, .int m_size, .int m_at2_34, .int m_end2_35, .int m_token2_41, .int m_whole2_42, .int m_nameSize2_39, .int m_fault2_37, .int m_place2_40, .int m_trouble, .ref a_letters, .int m_failed2_36, .int m_hasHouse, .ref a_r, .ref a_fresh, .ref a_st, .ref a_undone, .ref a_kept, .int m_undos, .int m_images, .ref a_from, .ref a_begin, .ref a_motor, .ref a_change, .ref a_startFrame, .ref a_changeFrame, .ref a_lostAt, .ref a_blackAt, .ref a_slips, .ref a_leftArc, .ref a_died, .ref a_arcs, .int m_bestSum, .int m_nearest, .int m_nearestTown, .ref a_there, .ref a_backAt, .ref a_sorted, .ref a_parts, .int m_seed1, .int m_darkNow])), (a_tape, .inl (g.2.2.1, 900, .inl d_tape)), (a_letters, .inl (g.2.2.1, 8, .inl d_letters2_38))] [(a_fresh, .inl (g.2.2.1, 311, .inl fa_53))] [1, 2, 3] [0] (m_after l g h0 sr_61 0 z_63 m_thrown a_tape m_taped m_size m_at2_34 m_end2_35 m_token2_41 m_whole2_42 m_nameSize2_39 m_fault2_37 m_place2_40 m_trouble a_letters m_failed2_36 m_hasHouse a_r a_fresh a_st a_undone a_kept m_undos m_images a_from a_begin a_motor a_change a_startFrame a_changeFrame a_lostAt a_blackAt a_slips a_leftArc a_died a_arcs m_bestSum m_nearest m_nearestTown a_there a_backAt a_sorted a_parts m_seed1 m_darkNow d_tape d_letters2_38 ("first") (iv_w hv_m_size (by decide) (by decide)) (iv_w iv_44 (by decide) (by decide)) (iv_w iv_46 (by decide) (by decide)) (iv_w iv_45 (by decide) (by decide)) hsr_61 hk_49) dX11_reelLine_69 mw523 mw524 mw525 mw5 mw526 rfl 11 rfl rfl 0 _ rfl (by unfold yOk; decide) rfl (Nat.le_of_ble_eq_true rfl) (Nat.le_of_ble_eq_true rfl) (Nat.le_of_ble_eq_true rfl) (Nat.le_of_ble_eq_true rfl) (Nat.le_of_ble_eq_true rfl) rfl rfl (by decide) rfl (by decide) (by decide) ?_
    rintro r_74 w ⟨m_at2_65, m_end2_66, m_failed2_67, m_fault2_68, d_letters2_69, m_nameSize2_70, m_place2_71, m_token2_72, m_whole2_73, iv_75, iv_76, iv_77, hq_78, hq_79, hk_80, rfl⟩
    refine k_ws [(a_fresh, .inl (g.2.2.1, 311, .inl fa_53)), (h0, .inr (11, [.int m_thrown, .ref a_tape, .int m_taped, .int m_size, .int m_at2_65, .int m_end2_66, .int m_token2_72, .int m_whole2_73, .int m_nameSize2_70, .int m_fault2_68, .int m_place2_71, .int m_trouble, .ref a_letters, .int m_failed2_67, .int m_hasHouse, .ref a_r, .ref a_fresh, .ref a_st, .ref a_undone, .ref a_kept, .int m_undos, .int m_images, .ref a_from, .ref a_begin, .ref a_motor, .ref a_change, .ref a_startFrame, .ref a_changeFrame, .ref a_lostAt, .ref a_blackAt, .ref a_slips, .ref a_leftArc, .ref a_died, .ref a_arcs, .int m_bestSum, .int m_nearest, .int m_nearestTown, .ref a_there, .ref a_backAt, .ref a_sorted, .ref a_parts, .int m_seed1, .int m_darkNow])), (a_tape, .inl (g.2.2.1, 900, .inl d_tape)), (a_letters, .inl (g.2.2.1, 8, .inl d_letters2_69))] rfl ?_
    have e_81 : (0 : Int32).toInt = 0 := by decide
    have iv_82 : IV r_74 0 2147483647 := by have := (show IV 0 0 0 from (by decide)); have := (iv_any z_63); rw [IV]; omega
    refine k_iast [(a_fresh, .inl (g.2.2.1, 311, .inl (upd fa_53 (z_58 : Int32).toNatClampNeg r_74))), (h0, .inr (11, [.int m_thrown, .ref a_tape, .int m_taped, .int m_size, .int m_at2_65, .int m_end2_66, .int m_token2_72, .int m_whole2_73, .int m_nameSize2_70, .int m_fault2_68, .int m_place2_71, .int m_trouble, .ref a_letters, .int m_failed2_67, .int m_hasHouse, .ref a_r, .ref a_fresh, .ref a_st, .ref a_undone, .ref a_kept, .int m_undos, .int m_images, .ref a_from, .ref a_begin, .ref a_motor, .ref a_change, .ref a_startFrame, .ref a_changeFrame, .ref a_lostAt, .ref a_blackAt, .ref a_slips, .ref a_leftArc, .ref a_died, .ref a_arcs, .int m_bestSum, .int m_nearest, .int m_nearestTown, .ref a_there, .ref a_backAt, .ref a_sorted, .ref a_parts, .int m_seed1, .int m_darkNow])), (a_tape, .inl (g.2.2.1, 900, .inl d_tape)), (a_letters, .inl (g.2.2.1, 8, .inl d_letters2_69))] X dX11_reelLine_72 0 rfl (iv_in iv_60 (by decide) (by decide)) rfl ?_
    have i_85 : z_58.toInt = 17 + 3 * z_5.toInt := by omega
    refine (fun hg : ∀ fa_83 : Nat → Int32, RInv fa_83 → K16 fa_53 fa_83 → Wk p l e _ s m args below meth c _ A g _ _ _ [(a_fresh, .inl (g.2.2.1, 311, .inl fa_83)), (h0, .inr (11, [.int m_thrown, .ref a_tape, .int m_taped, .int m_size, .int m_at2_65, .int m_end2_66, .int m_token2_72, .int m_whole2_73, .int m_nameSize2_70, .int m_fault2_68, .int m_place2_71, .int m_trouble, .ref a_letters, .int m_failed2_67, .int m_hasHouse, .ref a_r, .ref a_fresh, .ref a_st, .ref a_undone, .ref a_kept, .int m_undos, .int m_images, .ref a_from, .ref a_begin, .ref a_motor, .ref a_change, .ref a_startFrame, .ref a_changeFrame, .ref a_lostAt, .ref a_blackAt, .ref a_slips, .ref a_leftArc, .ref a_died, .ref a_arcs, .int m_bestSum, .int m_nearest, .int m_nearestTown, .ref a_there, .ref a_backAt, .ref a_sorted, .ref a_parts, .int m_seed1, .int m_darkNow])), (a_tape, .inl (g.2.2.1, 900, .inl d_tape)), (a_letters, .inl (g.2.2.1, 8, .inl d_letters2_69))] _ _ _ => hg _ (w_fr_17_3 hR_54 i_85 (iv_w iv_7 (by decide) (by decide))) (k16_u (by have := iv_60; omega))) (fun fa_83 hR_84 hk_86 => ?_)
    have ek_87 : z_5 = fa_83 (6 : Int32).toNatClampNeg := ek_57.trans (hk_86 _ (by decide)).symm
    refine k_aload_n X dX11_reelLine_73 1 rfl ?_
    refine k_get (ci := 11) X inlX11 rfl 16 (by decide) dX11_reelLine_74 mw171 1 rfl rfl ?_
    refine k_iload_n X dX11_reelLine_77 0 rfl ?_
    refine k_iconst (v := 2) X dX11_reelLine_78 (by decide) ?_
    refine k_iadd X dX11_reelLine_79 ?_
    refine k_nm (fun z_88 ez_88 => ?_)
    have i_89 : z_88.toInt = z_11.toInt + 2 := in_add ez_88 iv_13 (show IV 2 2 2 from (by decide)) (by decide) (by decide)
    have iv_90 : IV z_88 18 39 := by have := iv_13; have := (show IV 2 2 2 from (by decide)); rw [IV, i_89]; omega
    refine k_aload_n X dX11_reelLine_80 1 rfl ?_
    refine k_ldcwS (tx := "whole") X dX11_reelLine_81 (by decide +kernel) (fun sr_91 hsr_91 => ?_)
    refine k_aload_n X dX11_reelLine_84 1 rfl ?_
    refine k_get (ci := 11) X inlX11 rfl 16 (by decide) dX11_reelLine_85 mw171 1 rfl rfl ?_
    refine k_iload_n X dX11_reelLine_88 0 rfl ?_
    refine k_iald X dX11_reelLine_89 0 rfl (iv_in iv_13 (by decide) (by decide)) ?_
    refine k_nm (fun z_92 ez_92 => ?_)
    refine k_sipush (v := 2000) X dX11_reelLine_90 (by decide) ?_
    refine k_callVI (n := 3) (As := [.ref sr_91, .int z_92, .int 2000]) (st := [.int z_88, .ref a_fresh]) X [(h0, .inr (11, [.int m_thrown, .ref a_tape, .int m_taped, .int m_size, .int m_at2_65, .int m_end2_66, .int m_token2_72, .int m_whole2_73, .int m_nameSize2_70, .int m_fault2_68, .int m_place2_71, .int m_trouble, .ref a_letters, .int m_failed2_67, .int m_hasHouse, .ref a_r, .ref a_fresh, .ref a_st, .ref a_undone, .ref a_kept, .int m_undos, .int m_images, .ref a_from, .ref a_begin, .ref a_motor, .ref a_change, .ref a_startFrame, .ref a_changeFrame, .ref a_lostAt, .ref a_blackAt, .ref a_slips, .ref a_leftArc, .ref a_died, .ref a_arcs, .int m_bestSum, .int m_nearest, .int m_nearestTown, .ref a_there, .ref a_backAt, .ref a_sorted, .ref a_parts, .int m_seed1, .int m_darkNow])), (a_tape, .inl (g.2.2.1, 900, .inl d_tape)), (a_letters, .inl (g.2.2.1, 8, .inl d_letters2_69))] [(a_fresh, .inl (g.2.2.1, 311, .inl fa_83))] [1, 2, 3] [0] (m_after l g h0 sr_91 z_92 2000 m_thrown a_tape m_taped m_size m_at2_65 m_end2_66 m_token2_72 m_whole2_73 m_nameSize2_70 m_fault2_68 m_place2_71 m_trouble a_letters m_failed2_67 m_hasHouse a_r a_fresh a_st a_undone a_kept m_undos m_images a_from a_begin a_motor a_change a_startFrame a_changeFrame a_lostAt a_blackAt a_slips a_leftArc a_died a_arcs m_bestSum m_nearest m_nearestTown a_there a_backAt a_sorted a_parts m_seed1 m_darkNow d_tape d_letters2_69 ("whole") (iv_w hv_m_size (by decide) (by decide)) (iv_w iv_75 (by decide) (by decide)) (iv_w iv_77 (by decide) (by decide)) (iv_w iv_76 (by decide) (by decide)) hsr_91 hk_80) dX11_reelLine_93 mw523 mw524 mw525 mw5 mw526 rfl 11 rfl rfl 0 _ rfl (by unfold yOk; decide) rfl (Nat.le_of_ble_eq_true rfl) (Nat.le_of_ble_eq_true rfl) (Nat.le_of_ble_eq_true rfl) (Nat.le_of_ble_eq_true rfl) (Nat.le_of_ble_eq_true rfl) rfl rfl (by decide) rfl (by decide) (by decide) ?_
    rintro r_102 w ⟨m_at2_93, m_end2_94, m_failed2_95, m_fault2_96, d_letters2_97, m_nameSize2_98, m_place2_99, m_token2_100, m_whole2_101, iv_103, iv_104, iv_105, hq_106, hq_107, hk_108, rfl⟩
    refine k_ws [(a_fresh, .inl (g.2.2.1, 311, .inl fa_83)), (h0, .inr (11, [.int m_thrown, .ref a_tape, .int m_taped, .int m_size, .int m_at2_93, .int m_end2_94, .int m_token2_100, .int m_whole2_101, .int m_nameSize2_98, .int m_fault2_96, .int m_place2_99, .int m_trouble, .ref a_letters, .int m_failed2_95, .int m_hasHouse, .ref a_r, .ref a_fresh, .ref a_st, .ref a_undone, .ref a_kept, .int m_undos, .int m_images, .ref a_from, .ref a_begin, .ref a_motor, .ref a_change, .ref a_startFrame, .ref a_changeFrame, .ref a_lostAt, .ref a_blackAt, .ref a_slips, .ref a_leftArc, .ref a_died, .ref a_arcs, .int m_bestSum, .int m_nearest, .int m_nearestTown, .ref a_there, .ref a_backAt, .ref a_sorted, .ref a_parts, .int m_seed1, .int m_darkNow])), (a_tape, .inl (g.2.2.1, 900, .inl d_tape)), (a_letters, .inl (g.2.2.1, 8, .inl d_letters2_97))] rfl ?_
    have e_109 : (2000 : Int32).toInt = 2000 := by decide
    refine k_iast [(a_fresh, .inl (g.2.2.1, 311, .inl (upd fa_83 (z_88 : Int32).toNatClampNeg r_102))), (h0, .inr (11, [.int m_thrown, .ref a_tape, .int m_taped, .int m_size, .int m_at2_93, .int m_end2_94, .int m_token2_100, .int m_whole2_101, .int m_nameSize2_98, .int m_fault2_96, .int m_place2_99, .int m_trouble, .ref a_letters, .int m_failed2_95, .int m_hasHouse, .ref a_r, .ref a_fresh, .ref a_st, .ref a_undone, .ref a_kept, .int m_undos, .int m_images, .ref a_from, .ref a_begin, .ref a_motor, .ref a_change, .ref a_startFrame, .ref a_changeFrame, .ref a_lostAt, .ref a_blackAt, .ref a_slips, .ref a_leftArc, .ref a_died, .ref a_arcs, .int m_bestSum, .int m_nearest, .int m_nearestTown, .ref a_there, .ref a_backAt, .ref a_sorted, .ref a_parts, .int m_seed1, .int m_darkNow])), (a_tape, .inl (g.2.2.1, 900, .inl d_tape)), (a_letters, .inl (g.2.2.1, 8, .inl d_letters2_97))] X dX11_reelLine_96 0 rfl (iv_in iv_90 (by decide) (by decide)) rfl ?_
    have i_112 : z_88.toInt = 18 + 3 * z_5.toInt := by omega
    refine (fun hg : ∀ fa_110 : Nat → Int32, RInv fa_110 → K16 fa_83 fa_110 → Wk p l e _ s m args below meth c _ A g _ _ _ [(a_fresh, .inl (g.2.2.1, 311, .inl fa_110)), (h0, .inr (11, [.int m_thrown, .ref a_tape, .int m_taped, .int m_size, .int m_at2_93, .int m_end2_94, .int m_token2_100, .int m_whole2_101, .int m_nameSize2_98, .int m_fault2_96, .int m_place2_99, .int m_trouble, .ref a_letters, .int m_failed2_95, .int m_hasHouse, .ref a_r, .ref a_fresh, .ref a_st, .ref a_undone, .ref a_kept, .int m_undos, .int m_images, .ref a_from, .ref a_begin, .ref a_motor, .ref a_change, .ref a_startFrame, .ref a_changeFrame, .ref a_lostAt, .ref a_blackAt, .ref a_slips, .ref a_leftArc, .ref a_died, .ref a_arcs, .int m_bestSum, .int m_nearest, .int m_nearestTown, .ref a_there, .ref a_backAt, .ref a_sorted, .ref a_parts, .int m_seed1, .int m_darkNow])), (a_tape, .inl (g.2.2.1, 900, .inl d_tape)), (a_letters, .inl (g.2.2.1, 8, .inl d_letters2_97))] _ _ _ => hg _ (w_fr_18_3 hR_84 i_112 (iv_w iv_7 (by decide) (by decide))) (k16_u (by have := iv_90; omega))) (fun fa_110 hR_111 hk_113 => ?_)
    have ek_114 : z_5 = fa_110 (6 : Int32).toNatClampNeg := ek_87.trans (hk_113 _ (by decide)).symm
    refine k_aload_n X dX11_reelLine_97 1 rfl ?_
    refine k_get (ci := 11) X inlX11 rfl 13 (by decide) dX11_reelLine_98 mw469 1 rfl rfl ?_
    refine k_if_ne 115 X dX11_reelLine_101 (by decide) (fun h_115 => ?_) (fun h_115 => ?_)
    · skip
      have iv_116 : IV m_failed2_95 1 1 := iv_neL h_115 iv_104 (show IV 0 0 0 from (by decide)) (by decide)
      exact k_vret X hr dX11_reelLine_115 (Nat.le_of_ble_eq_true rfl) (Nat.le_of_ble_eq_true rfl) [1, 2, 3, 0] (by decide) rfl rfl ⟨m_at2_93, m_end2_94, m_failed2_95, m_fault2_96, fa_110, d_letters2_97, m_nameSize2_98, m_place2_99, m_token2_100, m_whole2_101, (iv_w iv_103 (by decide) (by decide)), (iv_w iv_116 (by decide) (by decide)), (iv_w iv_105 (by decide) (by decide)), hR_111, (by omega), hk_108, rfl⟩
    · skip
      have iv_117 : IV m_failed2_95 0 0 := iv_meet iv_104 (iv_e h_115 (show IV 0 0 0 from (by decide))) (by decide) (by decide)
      refine k_aload_n X dX11_reelLine_104 1 rfl ?_
      refine k_get (ci := 11) X inlX11 rfl 16 (by decide) dX11_reelLine_105 mw171 1 rfl rfl ?_
      refine k_bipush (v := 6) X dX11_reelLine_108 (by decide) ?_
      refine k_dup2 X dX11_reelLine_110 rfl rfl ?_
      refine k_iald X dX11_reelLine_111 0 rfl (by unfold vp_in; decide) ?_
      refine k_to z_5 ek_114.symm ?_
      refine k_iconst (v := 1) X dX11_reelLine_112 (by decide) ?_
      refine k_iadd X dX11_reelLine_113 ?_
      refine k_nm (fun z_118 ez_118 => ?_)
      have i_119 : z_118.toInt = z_5.toInt + 1 := in_add ez_118 iv_7 (show IV 1 1 1 from (by decide)) (by decide) (by decide)
      have iv_120 : IV z_118 1 8 := by have := iv_7; have := (show IV 1 1 1 from (by decide)); rw [IV, i_119]; omega
      refine k_iast [(a_fresh, .inl (g.2.2.1, 311, .inl (upd fa_110 (6 : Int32).toNatClampNeg z_118))), (h0, .inr (11, [.int m_thrown, .ref a_tape, .int m_taped, .int m_size, .int m_at2_93, .int m_end2_94, .int m_token2_100, .int m_whole2_101, .int m_nameSize2_98, .int m_fault2_96, .int m_place2_99, .int m_trouble, .ref a_letters, .int m_failed2_95, .int m_hasHouse, .ref a_r, .ref a_fresh, .ref a_st, .ref a_undone, .ref a_kept, .int m_undos, .int m_images, .ref a_from, .ref a_begin, .ref a_motor, .ref a_change, .ref a_startFrame, .ref a_changeFrame, .ref a_lostAt, .ref a_blackAt, .ref a_slips, .ref a_leftArc, .ref a_died, .ref a_arcs, .int m_bestSum, .int m_nearest, .int m_nearestTown, .ref a_there, .ref a_backAt, .ref a_sorted, .ref a_parts, .int m_seed1, .int m_darkNow])), (a_tape, .inl (g.2.2.1, 900, .inl d_tape)), (a_letters, .inl (g.2.2.1, 8, .inl d_letters2_97))] X dX11_reelLine_114 0 rfl (by unfold vp_in; decide) rfl ?_
      refine (fun hg : ∀ fa_121 : Nat → Int32, RInv fa_121 → Wk p l e _ s m args below meth c _ A g _ _ _ [(a_fresh, .inl (g.2.2.1, 311, .inl fa_121)), (h0, .inr (11, [.int m_thrown, .ref a_tape, .int m_taped, .int m_size, .int m_at2_93, .int m_end2_94, .int m_token2_100, .int m_whole2_101, .int m_nameSize2_98, .int m_fault2_96, .int m_place2_99, .int m_trouble, .ref a_letters, .int m_failed2_95, .int m_hasHouse, .ref a_r, .ref a_fresh, .ref a_st, .ref a_undone, .ref a_kept, .int m_undos, .int m_images, .ref a_from, .ref a_begin, .ref a_motor, .ref a_change, .ref a_startFrame, .ref a_changeFrame, .ref a_lostAt, .ref a_blackAt, .ref a_slips, .ref a_leftArc, .ref a_died, .ref a_arcs, .int m_bestSum, .int m_nearest, .int m_nearestTown, .ref a_there, .ref a_backAt, .ref a_sorted, .ref a_parts, .int m_seed1, .int m_darkNow])), (a_tape, .inl (g.2.2.1, 900, .inl d_tape)), (a_letters, .inl (g.2.2.1, 8, .inl d_letters2_97))] _ _ _ => hg _ (w_rb_6 hR_111 (iv_w iv_120 (by decide) (by decide)))) (fun fa_121 hR_122 => ?_)
      exact k_vret X hr dX11_reelLine_115 (Nat.le_of_ble_eq_true rfl) (Nat.le_of_ble_eq_true rfl) [1, 2, 3, 0] (by decide) rfl rfl ⟨m_at2_93, m_end2_94, m_failed2_95, m_fault2_96, fa_121, d_letters2_97, m_nameSize2_98, m_place2_99, m_token2_100, m_whole2_101, (iv_w iv_103 (by decide) (by decide)), (iv_w iv_117 (by decide) (by decide)), (iv_w iv_105 (by decide) (by decide)), hR_122, (by omega), hk_108, rfl⟩
  · skip
    have iv_124 : IV m_failed 1 1 := iv_neL h_1 hv_m_failed (show IV 0 0 0 from (by decide)) (by decide)
    exact k_vret X hr dX11_reelLine_7 (Nat.le_of_ble_eq_true rfl) (Nat.le_of_ble_eq_true rfl) [0, 1, 2, 3] (by decide) rfl rfl ⟨m_at, m_end, m_failed, m_fault, d_fresh, d_letters, m_nameSize, m_place, m_token, m_whole, (iv_w hv_m_end (by decide) (by decide)), (iv_w iv_124 (by decide) (by decide)), (iv_w hv_m_nameSize (by decide) (by decide)), hp_d_fresh, (by omega), hc_1, rfl⟩

theorem dX11_townLine_0 : decode cX11_townLine 0 = .ok (.aload_n 0, 1) := by decide +kernel
theorem dX11_townLine_1 : decode cX11_townLine 1 = .ok (.getfield 121, 3) := by decide +kernel
theorem dX11_townLine_4 : decode cX11_townLine 4 = .ok (.ifCond .eq 4, 3) := by decide +kernel
theorem dX11_townLine_7 : decode cX11_townLine 7 = .ok (.return_, 1) := by decide +kernel
theorem dX11_townLine_8 : decode cX11_townLine 8 = .ok (.aload_n 0, 1) := by decide +kernel
theorem dX11_townLine_9 : decode cX11_townLine 9 = .ok (.bipush 8, 2) := by decide +kernel
theorem dX11_townLine_11 : decode cX11_townLine 11 = .ok (.aload_n 0, 1) := by decide +kernel
theorem dX11_townLine_12 : decode cX11_townLine 12 = .ok (.getfield 23, 3) := by decide +kernel
theorem dX11_townLine_15 : decode cX11_townLine 15 = .ok (.bipush 7, 2) := by decide +kernel
theorem dX11_townLine_17 : decode cX11_townLine 17 = .ok (.iaload, 1) := by decide +kernel
theorem dX11_townLine_18 : decode cX11_townLine 18 = .ok (.iadd, 1) := by decide +kernel
theorem dX11_townLine_19 : decode cX11_townLine 19 = .ok (.invokevirtual 277, 3) := by decide +kernel
theorem dX11_townLine_22 : decode cX11_townLine 22 = .ok (.aload_n 0, 1) := by decide +kernel
theorem dX11_townLine_23 : decode cX11_townLine 23 = .ok (.getfield 23, 3) := by decide +kernel
theorem dX11_townLine_26 : decode cX11_townLine 26 = .ok (.bipush 40, 2) := by decide +kernel
theorem dX11_townLine_28 : decode cX11_townLine 28 = .ok (.aload_n 0, 1) := by decide +kernel
theorem dX11_townLine_29 : decode cX11_townLine 29 = .ok (.getfield 23, 3) := by decide +kernel
theorem dX11_townLine_32 : decode cX11_townLine 32 = .ok (.bipush 7, 2) := by decide +kernel
theorem dX11_townLine_34 : decode cX11_townLine 34 = .ok (.iaload, 1) := by decide +kernel
theorem dX11_townLine_35 : decode cX11_townLine 35 = .ok (.iadd, 1) := by decide +kernel
theorem dX11_townLine_36 : decode cX11_townLine 36 = .ok (.aload_n 0, 1) := by decide +kernel
theorem dX11_townLine_37 : decode cX11_townLine 37 = .ok (.ldc_w 286, 3) := by decide +kernel
theorem dX11_townLine_40 : decode cX11_townLine 40 = .ok (.iconst 1, 1) := by decide +kernel
theorem dX11_townLine_41 : decode cX11_townLine 41 = .ok (.bipush 9, 2) := by decide +kernel
theorem dX11_townLine_43 : decode cX11_townLine 43 = .ok (.invokevirtual 264, 3) := by decide +kernel
theorem dX11_townLine_46 : decode cX11_townLine 46 = .ok (.iastore, 1) := by decide +kernel
theorem dX11_townLine_47 : decode cX11_townLine 47 = .ok (.aload_n 0, 1) := by decide +kernel
theorem dX11_townLine_48 : decode cX11_townLine 48 = .ok (.getfield 121, 3) := by decide +kernel
theorem dX11_townLine_51 : decode cX11_townLine 51 = .ok (.ifCond .ne 14, 3) := by decide +kernel
theorem dX11_townLine_54 : decode cX11_townLine 54 = .ok (.aload_n 0, 1) := by decide +kernel
theorem dX11_townLine_55 : decode cX11_townLine 55 = .ok (.getfield 23, 3) := by decide +kernel
theorem dX11_townLine_58 : decode cX11_townLine 58 = .ok (.bipush 7, 2) := by decide +kernel
theorem dX11_townLine_60 : decode cX11_townLine 60 = .ok (.dup2, 1) := by decide +kernel
theorem dX11_townLine_61 : decode cX11_townLine 61 = .ok (.iaload, 1) := by decide +kernel
theorem dX11_townLine_62 : decode cX11_townLine 62 = .ok (.iconst 1, 1) := by decide +kernel
theorem dX11_townLine_63 : decode cX11_townLine 63 = .ok (.iadd, 1) := by decide +kernel
theorem dX11_townLine_64 : decode cX11_townLine 64 = .ok (.iastore, 1) := by decide +kernel
theorem dX11_townLine_65 : decode cX11_townLine 65 = .ok (.return_, 1) := by decide +kernel
set_option maxHeartbeats 4000000 in
set_option maxRecDepth 100000 in
theorem m_townLine (l : Launch) (g : Gx) (h0 : Nat) (m_thrown : Int32) (a_tape : Nat) (m_taped : Int32) (m_size : Int32) (m_at : Int32) (m_end : Int32) (m_token : Int32) (m_whole : Int32) (m_nameSize : Int32) (m_fault : Int32) (m_place : Int32) (m_trouble : Int32) (a_letters : Nat) (m_failed : Int32) (m_hasHouse : Int32) (a_r : Nat) (a_fresh : Nat) (a_st : Nat) (a_undone : Nat) (a_kept : Nat) (m_undos : Int32) (m_images : Int32) (a_from : Nat) (a_begin : Nat) (a_motor : Nat) (a_change : Nat) (a_startFrame : Nat) (a_changeFrame : Nat) (a_lostAt : Nat) (a_blackAt : Nat) (a_slips : Nat) (a_leftArc : Nat) (a_died : Nat) (a_arcs : Nat) (m_bestSum : Int32) (m_nearest : Int32) (m_nearestTown : Int32) (a_there : Nat) (a_backAt : Nat) (a_sorted : Nat) (a_parts : Nat) (m_seed1 : Int32) (m_darkNow : Int32) (d_tape : Nat → Int32) (d_letters : Nat → Int32) (d_fresh : Nat → Int32) (hv_m_size : IV m_size 0 900) (hv_m_end : IV m_end 0 900) (hv_m_nameSize : IV m_nameSize 0 900) (hv_m_failed : IV m_failed 0 1) (hp_d_fresh : RInv d_fresh) (hc_0 : m_failed = 1 ∨ ((d_fresh 7).toInt ≤ 3)) (hc_1 : m_token = 2 → IV m_nameSize 0 8) : cV l g yX11_townLine cX11_townLine 1 8 173 0 0 [.ref h0] [(h0, .inr (11, [.int m_thrown, .ref a_tape, .int m_taped, .int m_size, .int m_at, .int m_end, .int m_token, .int m_whole, .int m_nameSize, .int m_fault, .int m_place, .int m_trouble, .ref a_letters, .int m_failed, .int m_hasHouse, .ref a_r, .ref a_fresh, .ref a_st, .ref a_undone, .ref a_kept, .int m_undos, .int m_images, .ref a_from, .ref a_begin, .ref a_motor, .ref a_change, .ref a_startFrame, .ref a_changeFrame, .ref a_lostAt, .ref a_blackAt, .ref a_slips, .ref a_leftArc, .ref a_died, .ref a_arcs, .int m_bestSum, .int m_nearest, .int m_nearestTown, .ref a_there, .ref a_backAt, .ref a_sorted, .ref a_parts, .int m_seed1, .int m_darkNow])), (a_tape, .inl (g.2.2.1, 900, .inl d_tape)), (a_letters, .inl (g.2.2.1, 8, .inl d_letters)), (a_fresh, .inl (g.2.2.1, 311, .inl d_fresh))] (fun w => ∃ (m_at2 : Int32) (m_end2 : Int32) (m_failed2 : Int32) (m_fault2 : Int32) (d_fresh2 : Nat → Int32) (d_letters2 : Nat → Int32) (m_nameSize2 : Int32) (m_place2 : Int32) (m_token2 : Int32) (m_whole2 : Int32), IV m_end2 0 900 ∧ IV m_failed2 0 1 ∧ IV m_nameSize2 0 900 ∧ RInv d_fresh2 ∧ (m_end.toInt ≤ m_end2.toInt) ∧ (m_token2 = 2 → IV m_nameSize2 0 8) ∧ w = [(h0, .inr (11, [.int m_thrown, .ref a_tape, .int m_taped, .int m_size, .int m_at2, .int m_end2, .int m_token2, .int m_whole2, .int m_nameSize2, .int m_fault2, .int m_place2, .int m_trouble, .ref a_letters, .int m_failed2, .int m_hasHouse, .ref a_r, .ref a_fresh, .ref a_st, .ref a_undone, .ref a_kept, .int m_undos, .int m_images, .ref a_from, .ref a_begin, .ref a_motor, .ref a_change, .ref a_startFrame, .ref a_changeFrame, .ref a_lostAt, .ref a_blackAt, .ref a_slips, .ref a_leftArc, .ref a_died, .ref a_arcs, .int m_bestSum, .int m_nearest, .int m_nearestTown, .ref a_there, .ref a_backAt, .ref a_sorted, .ref a_parts, .int m_seed1, .int m_darkNow])), (a_tape, .inl (g.2.2.1, 900, .inl d_tape)), (a_letters, .inl (g.2.2.1, 8, .inl d_letters2)), (a_fresh, .inl (g.2.2.1, 311, .inl d_fresh2))]) := by
  refine cV.of (by decide) (Nat.le_of_ble_eq_true rfl) ?_
  intro p e s m args below meth c A X hr hi
  refine k_lveq [(0, .ref h0)] rfl ?_
  refine k_aload_n X dX11_townLine_0 0 rfl ?_
  refine k_get (ci := 11) X inlX11 rfl 13 (by decide) dX11_townLine_1 mw469 0 rfl rfl ?_
  refine k_if_eq 8 X dX11_townLine_4 (by decide) (fun h_1 => ?_) (fun h_1 => ?_)
  · skip
    have iv_2 : IV m_failed 0 0 := iv_meet hv_m_failed (iv_e h_1 (show IV 0 0 0 from (by decide))) (by decide) (by decide)
    have hc_3 := hc_0.resolve_left (fun q => iv_eqN q iv_2 (show IV 1 1 1 from (by decide)) (by decide))
    have j_4 : (d_fresh 7).toInt ≤ 3 := hc_3
    refine k_aload_n X dX11_townLine_8 0 rfl ?_
    refine k_bipush (v := 8) X dX11_townLine_9 (by decide) ?_
    refine k_aload_n X dX11_townLine_11 0 rfl ?_
    refine k_get (ci := 11) X inlX11 rfl 16 (by decide) dX11_townLine_12 mw171 0 rfl rfl ?_
    refine k_bipush (v := 7) X dX11_townLine_15 (by decide) ?_
    refine k_iald X dX11_townLine_17 3 rfl (by unfold vp_in; decide) ?_
    refine k_nm (fun z_5 ez_5 => ?_)
    have i_6 : z_5.toInt = (d_fresh 7).toInt := by rw [ez_5]; rfl
    have iv_7 : IV z_5 0 3 := by have := rb_7 ez_5 hp_d_fresh; rw [IV]; omega
    refine k_iadd X dX11_townLine_18 ?_
    refine k_nm (fun z_8 ez_8 => ?_)
    have i_9 : z_8.toInt = 8 + z_5.toInt := in_add ez_8 (show IV 8 8 8 from (by decide)) iv_7 (by decide) (by decide)
    have iv_10 : IV z_8 8 11 := by have := (show IV 8 8 8 from (by decide)); have := iv_7; rw [IV, i_9]; omega
    refine k_callVV (n := 1) (As := [.int z_8]) (st := []) X [(h0, .inr (11, [.int m_thrown, .ref a_tape, .int m_taped, .int m_size, .int m_at, .int m_end, .int m_token, .int m_whole, .int m_nameSize, .int m_fault, .int m_place, .int m_trouble, .ref a_letters, .int m_failed, .int m_hasHouse, .ref a_r, .ref a_fresh, .ref a_st, .ref a_undone, .ref a_kept, .int m_undos, .int m_images, .ref a_from, .ref a_begin, .ref a_motor, .ref a_change, .ref a_startFrame, .ref a_changeFrame, .ref a_lostAt, .ref a_blackAt, .ref a_slips, .ref a_leftArc, .ref a_died, .ref a_arcs, .int m_bestSum, .int m_nearest, .int m_nearestTown, .ref a_there, .ref a_backAt, .ref a_sorted, .ref a_parts, .int m_seed1, .int m_darkNow])), (a_tape, .inl (g.2.2.1, 900, .inl d_tape)), (a_letters, .inl (g.2.2.1, 8, .inl d_letters)), (a_fresh, .inl (g.2.2.1, 311, .inl d_fresh))] [] [0, 1, 2, 3] [] (m_newName l g h0 z_8 m_thrown a_tape m_taped m_size m_at m_end m_token m_whole m_nameSize m_fault m_place m_trouble a_letters m_failed m_hasHouse a_r a_fresh a_st a_undone a_kept m_undos m_images a_from a_begin a_motor a_change a_startFrame a_changeFrame a_lostAt a_blackAt a_slips a_leftArc a_died a_arcs m_bestSum m_nearest m_nearestTown a_there a_backAt a_sorted a_parts m_seed1 m_darkNow d_tape d_letters d_fresh (iv_w iv_10 (by decide) (by decide)) (iv_w hv_m_size (by decide) (by decide)) (iv_w hv_m_end (by decide) (by decide)) (iv_w hv_m_nameSize (by decide) (by decide)) (iv_w iv_2 (by decide) (by decide)) hp_d_fresh hc_1) dX11_townLine_19 mw551 mw552 mw553 mw5 mw554 rfl 11 rfl rfl 0 _ rfl (by unfold yOk; decide) rfl (Nat.le_of_ble_eq_true rfl) (Nat.le_of_ble_eq_true rfl) (Nat.le_of_ble_eq_true rfl) (Nat.le_of_ble_eq_true rfl) (Nat.le_of_ble_eq_true rfl) rfl rfl (by decide) rfl (by decide) (by decide) ?_
    rintro w ⟨m_at2_11, m_end2_12, m_failed2_13, m_fault2_14, d_fresh2_15, d_letters2_16, m_nameSize2_17, m_place2_18, m_token2_19, m_whole2_20, iv_22, iv_23, iv_24, hp_25, hq_26, hq_27, hk_28, rfl⟩
    refine k_ws [(h0, .inr (11, [.int m_thrown, .ref a_tape, .int m_taped, .int m_size, .int m_at2_11, .int m_end2_12, .int m_token2_19, .int m_whole2_20, .int m_nameSize2_17, .int m_fault2_14, .int m_place2_18, .int m_trouble, .ref a_letters, .int m_failed2_13, .int m_hasHouse, .ref a_r, .ref a_fresh, .ref a_st, .ref a_undone, .ref a_kept, .int m_undos, .int m_images, .ref a_from, .ref a_begin, .ref a_motor, .ref a_change, .ref a_startFrame, .ref a_changeFrame, .ref a_lostAt, .ref a_blackAt, .ref a_slips, .ref a_leftArc, .ref a_died, .ref a_arcs, .int m_bestSum, .int m_nearest, .int m_nearestTown, .ref a_there, .ref a_backAt, .ref a_sorted, .ref a_parts, .int m_seed1, .int m_darkNow])), (a_tape, .inl (g.2.2.1, 900, .inl d_tape)), (a_letters, .inl (g.2.2.1, 8, .inl d_letters2_16)), (a_fresh, .inl (g.2.2.1, 311, .inl d_fresh2_15))] rfl ?_
    have ek_29 : z_5 = d_fresh2_15 (7 : Int32).toNatClampNeg := ez_5.trans (hq_26 _ (by decide)).symm
    refine k_aload_n X dX11_townLine_22 0 rfl ?_
    refine k_get (ci := 11) X inlX11 rfl 16 (by decide) dX11_townLine_23 mw171 0 rfl rfl ?_
    refine k_bipush (v := 40) X dX11_townLine_26 (by decide) ?_
    refine k_aload_n X dX11_townLine_28 0 rfl ?_
    refine k_get (ci := 11) X inlX11 rfl 16 (by decide) dX11_townLine_29 mw171 0 rfl rfl ?_
    refine k_bipush (v := 7) X dX11_townLine_32 (by decide) ?_
    refine k_iald X dX11_townLine_34 3 rfl (by unfold vp_in; decide) ?_
    refine k_to z_5 ek_29.symm ?_
    refine k_iadd X dX11_townLine_35 ?_
    refine k_nm (fun z_30 ez_30 => ?_)
    have i_31 : z_30.toInt = 40 + z_5.toInt := in_add ez_30 (show IV 40 40 40 from (by decide)) iv_7 (by decide) (by decide)
    have iv_32 : IV z_30 40 43 := by have := (show IV 40 40 40 from (by decide)); have := iv_7; rw [IV, i_31]; omega
    refine k_aload_n X dX11_townLine_36 0 rfl ?_
    refine k_ldcwS (tx := "trust") X dX11_townLine_37 (by decide +kernel) (fun sr_33 hsr_33 => ?_)
    refine k_iconst (v := 1) X dX11_townLine_40 (by decide) ?_
    refine k_bipush (v := 9) X dX11_townLine_41 (by decide) ?_
    refine k_callVI (n := 3) (As := [.ref sr_33, .int 1, .int 9]) (st := [.int z_30, .ref a_fresh]) X [(h0, .inr (11, [.int m_thrown, .ref a_tape, .int m_taped, .int m_size, .int m_at2_11, .int m_end2_12, .int m_token2_19, .int m_whole2_20, .int m_nameSize2_17, .int m_fault2_14, .int m_place2_18, .int m_trouble, .ref a_letters, .int m_failed2_13, .int m_hasHouse, .ref a_r, .ref a_fresh, .ref a_st, .ref a_undone, .ref a_kept, .int m_undos, .int m_images, .ref a_from, .ref a_begin, .ref a_motor, .ref a_change, .ref a_startFrame, .ref a_changeFrame, .ref a_lostAt, .ref a_blackAt, .ref a_slips, .ref a_leftArc, .ref a_died, .ref a_arcs, .int m_bestSum, .int m_nearest, .int m_nearestTown, .ref a_there, .ref a_backAt, .ref a_sorted, .ref a_parts, .int m_seed1, .int m_darkNow])), (a_tape, .inl (g.2.2.1, 900, .inl d_tape)), (a_letters, .inl (g.2.2.1, 8, .inl d_letters2_16))] [(a_fresh, .inl (g.2.2.1, 311, .inl d_fresh2_15))] [0, 1, 2] [3] (m_after l g h0 sr_33 1 9 m_thrown a_tape m_taped m_size m_at2_11 m_end2_12 m_token2_19 m_whole2_20 m_nameSize2_17 m_fault2_14 m_place2_18 m_trouble a_letters m_failed2_13 m_hasHouse a_r a_fresh a_st a_undone a_kept m_undos m_images a_from a_begin a_motor a_change a_startFrame a_changeFrame a_lostAt a_blackAt a_slips a_leftArc a_died a_arcs m_bestSum m_nearest m_nearestTown a_there a_backAt a_sorted a_parts m_seed1 m_darkNow d_tape d_letters2_16 ("trust") (iv_w hv_m_size (by decide) (by decide)) (iv_w iv_22 (by decide) (by decide)) (iv_w iv_24 (by decide) (by decide)) (iv_w iv_23 (by decide) (by decide)) hsr_33 hk_28) dX11_townLine_43 mw523 mw524 mw525 mw5 mw526 rfl 11 rfl rfl 0 _ rfl (by unfold yOk; decide) rfl (Nat.le_of_ble_eq_true rfl) (Nat.le_of_ble_eq_true rfl) (Nat.le_of_ble_eq_true rfl) (Nat.le_of_ble_eq_true rfl) (Nat.le_of_ble_eq_true rfl) rfl rfl (by decide) rfl (by decide) (by decide) ?_
    rintro r_43 w ⟨m_at2_34, m_end2_35, m_failed2_36, m_fault2_37, d_letters2_38, m_nameSize2_39, m_place2_40, m_token2_41, m_whole2_42, iv_44, iv_45, iv_46, hq_47, hq_48, hk_49, rfl⟩
    refine k_ws [(a_fresh, .inl (g.2.2.1, 311, .inl d_fresh2_15)), (h0, .inr (11, [.int m_thrown, .ref a_tape, .int m_taped, .int m_size, .int m_at2_34, .int m_end2_35, .int m_token2_41, .int m_whole2_42, .int m_nameSize2_39, .int m_fault2_37, .int m_place2_40, .int m_trouble, .ref a_letters, .int m_failed2_36, .int m_hasHouse, .ref a_r, .ref a_fresh, .ref a_st, .ref a_undone, .ref a_kept, .int m_undos, .int m_images, .ref a_from, .ref a_begin, .ref a_motor, .ref a_change, .ref a_startFrame, .ref a_changeFrame, .ref a_lostAt, .ref a_blackAt, .ref a_slips, .ref a_leftArc, .ref a_died, .ref a_arcs, .int m_bestSum, .int m_nearest, .int m_nearestTown, .ref a_there, .ref a_backAt, .ref a_sorted, .ref a_parts, .int m_seed1, .int m_darkNow])), (a_tape, .inl (g.2.2.1, 900, .inl d_tape)), (a_letters, .inl (g.2.2.1, 8, .inl d_letters2_38))] rfl ?_
    have e_50 : (1 : Int32).toInt = 1 := by decide
    have e_51 : (9 : Int32).toInt = 9 := by decide
    have iv_52 : IV r_43 1 9 := by have := (show IV 1 1 1 from (by decide)); have := (show IV 9 9 9 from (by decide)); rw [IV]; omega
    refine k_iast [(a_fresh, .inl (g.2.2.1, 311, .inl (upd d_fresh2_15 (z_30 : Int32).toNatClampNeg r_43))), (h0, .inr (11, [.int m_thrown, .ref a_tape, .int m_taped, .int m_size, .int m_at2_34, .int m_end2_35, .int m_token2_41, .int m_whole2_42, .int m_nameSize2_39, .int m_fault2_37, .int m_place2_40, .int m_trouble, .ref a_letters, .int m_failed2_36, .int m_hasHouse, .ref a_r, .ref a_fresh, .ref a_st, .ref a_undone, .ref a_kept, .int m_undos, .int m_images, .ref a_from, .ref a_begin, .ref a_motor, .ref a_change, .ref a_startFrame, .ref a_changeFrame, .ref a_lostAt, .ref a_blackAt, .ref a_slips, .ref a_leftArc, .ref a_died, .ref a_arcs, .int m_bestSum, .int m_nearest, .int m_nearestTown, .ref a_there, .ref a_backAt, .ref a_sorted, .ref a_parts, .int m_seed1, .int m_darkNow])), (a_tape, .inl (g.2.2.1, 900, .inl d_tape)), (a_letters, .inl (g.2.2.1, 8, .inl d_letters2_38))] X dX11_townLine_46 0 rfl (iv_in iv_32 (by decide) (by decide)) rfl ?_
    have i_55 : z_30.toInt = 40 + 1 * z_5.toInt := by omega
    refine (fun hg : ∀ fa_53 : Nat → Int32, RInv fa_53 → K16 d_fresh2_15 fa_53 → Wk p l e _ s m args below meth c _ A g _ _ _ [(a_fresh, .inl (g.2.2.1, 311, .inl fa_53)), (h0, .inr (11, [.int m_thrown, .ref a_tape, .int m_taped, .int m_size, .int m_at2_34, .int m_end2_35, .int m_token2_41, .int m_whole2_42, .int m_nameSize2_39, .int m_fault2_37, .int m_place2_40, .int m_trouble, .ref a_letters, .int m_failed2_36, .int m_hasHouse, .ref a_r, .ref a_fresh, .ref a_st, .ref a_undone, .ref a_kept, .int m_undos, .int m_images, .ref a_from, .ref a_begin, .ref a_motor, .ref a_change, .ref a_startFrame, .ref a_changeFrame, .ref a_lostAt, .ref a_blackAt, .ref a_slips, .ref a_leftArc, .ref a_died, .ref a_arcs, .int m_bestSum, .int m_nearest, .int m_nearestTown, .ref a_there, .ref a_backAt, .ref a_sorted, .ref a_parts, .int m_seed1, .int m_darkNow])), (a_tape, .inl (g.2.2.1, 900, .inl d_tape)), (a_letters, .inl (g.2.2.1, 8, .inl d_letters2_38))] _ _ _ => hg _ (w_rb_40_1 hp_25 i_55 (iv_w iv_7 (by decide) (by decide)) (iv_w iv_52 (by decide) (by decide))) (k16_u (by have := iv_32; omega))) (fun fa_53 hR_54 hk_56 => ?_)
    have ek_57 : z_5 = fa_53 (7 : Int32).toNatClampNeg := ek_29.trans (hk_56 _ (by decide)).symm
    refine k_aload_n X dX11_townLine_47 0 rfl ?_
    refine k_get (ci := 11) X inlX11 rfl 13 (by decide) dX11_townLine_48 mw469 1 rfl rfl ?_
    refine k_if_ne 65 X dX11_townLine_51 (by decide) (fun h_58 => ?_) (fun h_58 => ?_)
    · skip
      have iv_59 : IV m_failed2_36 1 1 := iv_neL h_58 iv_45 (show IV 0 0 0 from (by decide)) (by decide)
      exact k_vret X hr dX11_townLine_65 (Nat.le_of_ble_eq_true rfl) (Nat.le_of_ble_eq_true rfl) [1, 2, 3, 0] (by decide) rfl rfl ⟨m_at2_34, m_end2_35, m_failed2_36, m_fault2_37, fa_53, d_letters2_38, m_nameSize2_39, m_place2_40, m_token2_41, m_whole2_42, (iv_w iv_44 (by decide) (by decide)), (iv_w iv_59 (by decide) (by decide)), (iv_w iv_46 (by decide) (by decide)), hR_54, (by omega), hk_49, rfl⟩
    · skip
      have iv_60 : IV m_failed2_36 0 0 := iv_meet iv_45 (iv_e h_58 (show IV 0 0 0 from (by decide))) (by decide) (by decide)
      refine k_aload_n X dX11_townLine_54 0 rfl ?_
      refine k_get (ci := 11) X inlX11 rfl 16 (by decide) dX11_townLine_55 mw171 1 rfl rfl ?_
      refine k_bipush (v := 7) X dX11_townLine_58 (by decide) ?_
      refine k_dup2 X dX11_townLine_60 rfl rfl ?_
      refine k_iald X dX11_townLine_61 0 rfl (by unfold vp_in; decide) ?_
      refine k_to z_5 ek_57.symm ?_
      refine k_iconst (v := 1) X dX11_townLine_62 (by decide) ?_
      refine k_iadd X dX11_townLine_63 ?_
      refine k_nm (fun z_61 ez_61 => ?_)
      have i_62 : z_61.toInt = z_5.toInt + 1 := in_add ez_61 iv_7 (show IV 1 1 1 from (by decide)) (by decide) (by decide)
      have iv_63 : IV z_61 1 4 := by have := iv_7; have := (show IV 1 1 1 from (by decide)); rw [IV, i_62]; omega
      refine k_iast [(a_fresh, .inl (g.2.2.1, 311, .inl (upd fa_53 (7 : Int32).toNatClampNeg z_61))), (h0, .inr (11, [.int m_thrown, .ref a_tape, .int m_taped, .int m_size, .int m_at2_34, .int m_end2_35, .int m_token2_41, .int m_whole2_42, .int m_nameSize2_39, .int m_fault2_37, .int m_place2_40, .int m_trouble, .ref a_letters, .int m_failed2_36, .int m_hasHouse, .ref a_r, .ref a_fresh, .ref a_st, .ref a_undone, .ref a_kept, .int m_undos, .int m_images, .ref a_from, .ref a_begin, .ref a_motor, .ref a_change, .ref a_startFrame, .ref a_changeFrame, .ref a_lostAt, .ref a_blackAt, .ref a_slips, .ref a_leftArc, .ref a_died, .ref a_arcs, .int m_bestSum, .int m_nearest, .int m_nearestTown, .ref a_there, .ref a_backAt, .ref a_sorted, .ref a_parts, .int m_seed1, .int m_darkNow])), (a_tape, .inl (g.2.2.1, 900, .inl d_tape)), (a_letters, .inl (g.2.2.1, 8, .inl d_letters2_38))] X dX11_townLine_64 0 rfl (by unfold vp_in; decide) rfl ?_
      refine (fun hg : ∀ fa_64 : Nat → Int32, RInv fa_64 → Wk p l e _ s m args below meth c _ A g _ _ _ [(a_fresh, .inl (g.2.2.1, 311, .inl fa_64)), (h0, .inr (11, [.int m_thrown, .ref a_tape, .int m_taped, .int m_size, .int m_at2_34, .int m_end2_35, .int m_token2_41, .int m_whole2_42, .int m_nameSize2_39, .int m_fault2_37, .int m_place2_40, .int m_trouble, .ref a_letters, .int m_failed2_36, .int m_hasHouse, .ref a_r, .ref a_fresh, .ref a_st, .ref a_undone, .ref a_kept, .int m_undos, .int m_images, .ref a_from, .ref a_begin, .ref a_motor, .ref a_change, .ref a_startFrame, .ref a_changeFrame, .ref a_lostAt, .ref a_blackAt, .ref a_slips, .ref a_leftArc, .ref a_died, .ref a_arcs, .int m_bestSum, .int m_nearest, .int m_nearestTown, .ref a_there, .ref a_backAt, .ref a_sorted, .ref a_parts, .int m_seed1, .int m_darkNow])), (a_tape, .inl (g.2.2.1, 900, .inl d_tape)), (a_letters, .inl (g.2.2.1, 8, .inl d_letters2_38))] _ _ _ => hg _ (w_rb_7 hR_54 (iv_w iv_63 (by decide) (by decide)))) (fun fa_64 hR_65 => ?_)
      exact k_vret X hr dX11_townLine_65 (Nat.le_of_ble_eq_true rfl) (Nat.le_of_ble_eq_true rfl) [1, 2, 3, 0] (by decide) rfl rfl ⟨m_at2_34, m_end2_35, m_failed2_36, m_fault2_37, fa_64, d_letters2_38, m_nameSize2_39, m_place2_40, m_token2_41, m_whole2_42, (iv_w iv_44 (by decide) (by decide)), (iv_w iv_60 (by decide) (by decide)), (iv_w iv_46 (by decide) (by decide)), hR_65, (by omega), hk_49, rfl⟩
  · skip
    have iv_67 : IV m_failed 1 1 := iv_neL h_1 hv_m_failed (show IV 0 0 0 from (by decide)) (by decide)
    exact k_vret X hr dX11_townLine_7 (Nat.le_of_ble_eq_true rfl) (Nat.le_of_ble_eq_true rfl) [0, 1, 2, 3] (by decide) rfl rfl ⟨m_at, m_end, m_failed, m_fault, d_fresh, d_letters, m_nameSize, m_place, m_token, m_whole, (iv_w hv_m_end (by decide) (by decide)), (iv_w iv_67 (by decide) (by decide)), (iv_w hv_m_nameSize (by decide) (by decide)), hp_d_fresh, (by omega), hc_1, rfl⟩

theorem dX11_markLine_0 : decode cX11_markLine 0 = .ok (.aload_n 0, 1) := by decide +kernel
theorem dX11_markLine_1 : decode cX11_markLine 1 = .ok (.getfield 121, 3) := by decide +kernel
theorem dX11_markLine_4 : decode cX11_markLine 4 = .ok (.ifCond .eq 4, 3) := by decide +kernel
theorem dX11_markLine_7 : decode cX11_markLine 7 = .ok (.return_, 1) := by decide +kernel
theorem dX11_markLine_8 : decode cX11_markLine 8 = .ok (.bipush 44, 2) := by decide +kernel
theorem dX11_markLine_10 : decode cX11_markLine 10 = .ok (.iconst 3, 1) := by decide +kernel
theorem dX11_markLine_11 : decode cX11_markLine 11 = .ok (.aload_n 0, 1) := by decide +kernel
theorem dX11_markLine_12 : decode cX11_markLine 12 = .ok (.getfield 23, 3) := by decide +kernel
theorem dX11_markLine_15 : decode cX11_markLine 15 = .ok (.bipush 8, 2) := by decide +kernel
theorem dX11_markLine_17 : decode cX11_markLine 17 = .ok (.iaload, 1) := by decide +kernel
theorem dX11_markLine_18 : decode cX11_markLine 18 = .ok (.imul, 1) := by decide +kernel
theorem dX11_markLine_19 : decode cX11_markLine 19 = .ok (.iadd, 1) := by decide +kernel
theorem dX11_markLine_20 : decode cX11_markLine 20 = .ok (.istore_n 1, 1) := by decide +kernel
theorem dX11_markLine_21 : decode cX11_markLine 21 = .ok (.aload_n 0, 1) := by decide +kernel
theorem dX11_markLine_22 : decode cX11_markLine 22 = .ok (.invokevirtual 288, 3) := by decide +kernel
theorem dX11_markLine_25 : decode cX11_markLine 25 = .ok (.istore_n 2, 1) := by decide +kernel
theorem dX11_markLine_26 : decode cX11_markLine 26 = .ok (.aload_n 0, 1) := by decide +kernel
theorem dX11_markLine_27 : decode cX11_markLine 27 = .ok (.getfield 121, 3) := by decide +kernel
theorem dX11_markLine_30 : decode cX11_markLine 30 = .ok (.ifCond .eq 7, 3) := by decide +kernel
theorem dX11_markLine_33 : decode cX11_markLine 33 = .ok (.iconst 0, 1) := by decide +kernel
theorem dX11_markLine_34 : decode cX11_markLine 34 = .ok (.goto 8, 3) := by decide +kernel
theorem dX11_markLine_37 : decode cX11_markLine 37 = .ok (.aload_n 0, 1) := by decide +kernel
theorem dX11_markLine_38 : decode cX11_markLine 38 = .ok (.iload_n 2, 1) := by decide +kernel
theorem dX11_markLine_39 : decode cX11_markLine 39 = .ok (.invokevirtual 291, 3) := by decide +kernel
theorem dX11_markLine_42 : decode cX11_markLine 42 = .ok (.istore_n 3, 1) := by decide +kernel
theorem dX11_markLine_43 : decode cX11_markLine 43 = .ok (.aload_n 0, 1) := by decide +kernel
theorem dX11_markLine_44 : decode cX11_markLine 44 = .ok (.ldc 170, 2) := by decide +kernel
theorem dX11_markLine_46 : decode cX11_markLine 46 = .ok (.invokevirtual 193, 3) := by decide +kernel
theorem dX11_markLine_49 : decode cX11_markLine 49 = .ok (.aload_n 0, 1) := by decide +kernel
theorem dX11_markLine_50 : decode cX11_markLine 50 = .ok (.bipush 8, 2) := by decide +kernel
theorem dX11_markLine_52 : decode cX11_markLine 52 = .ok (.bipush 11, 2) := by decide +kernel
theorem dX11_markLine_54 : decode cX11_markLine 54 = .ok (.invokevirtual 186, 3) := by decide +kernel
theorem dX11_markLine_57 : decode cX11_markLine 57 = .ok (.istore 4, 2) := by decide +kernel
theorem dX11_markLine_59 : decode cX11_markLine 59 = .ok (.iconst 0, 1) := by decide +kernel
theorem dX11_markLine_60 : decode cX11_markLine 60 = .ok (.istore 5, 2) := by decide +kernel
theorem dX11_markLine_62 : decode cX11_markLine 62 = .ok (.iload 5, 2) := by decide +kernel
theorem dX11_markLine_64 : decode cX11_markLine 64 = .ok (.aload_n 0, 1) := by decide +kernel
theorem dX11_markLine_65 : decode cX11_markLine 65 = .ok (.getfield 23, 3) := by decide +kernel
theorem dX11_markLine_68 : decode cX11_markLine 68 = .ok (.bipush 8, 2) := by decide +kernel
theorem dX11_markLine_70 : decode cX11_markLine 70 = .ok (.iaload, 1) := by decide +kernel
theorem dX11_markLine_71 : decode cX11_markLine 71 = .ok (.if_icmp .ge 60, 3) := by decide +kernel
theorem dX11_markLine_74 : decode cX11_markLine 74 = .ok (.aload_n 0, 1) := by decide +kernel
theorem dX11_markLine_75 : decode cX11_markLine 75 = .ok (.getfield 121, 3) := by decide +kernel
theorem dX11_markLine_78 : decode cX11_markLine 78 = .ok (.ifCond .ne 47, 3) := by decide +kernel
theorem dX11_markLine_81 : decode cX11_markLine 81 = .ok (.aload_n 0, 1) := by decide +kernel
theorem dX11_markLine_82 : decode cX11_markLine 82 = .ok (.getfield 23, 3) := by decide +kernel
theorem dX11_markLine_85 : decode cX11_markLine 85 = .ok (.bipush 44, 2) := by decide +kernel
theorem dX11_markLine_87 : decode cX11_markLine 87 = .ok (.iconst 3, 1) := by decide +kernel
theorem dX11_markLine_88 : decode cX11_markLine 88 = .ok (.iload 5, 2) := by decide +kernel
theorem dX11_markLine_90 : decode cX11_markLine 90 = .ok (.imul, 1) := by decide +kernel
theorem dX11_markLine_91 : decode cX11_markLine 91 = .ok (.iadd, 1) := by decide +kernel
theorem dX11_markLine_92 : decode cX11_markLine 92 = .ok (.iaload, 1) := by decide +kernel
theorem dX11_markLine_93 : decode cX11_markLine 93 = .ok (.iload_n 2, 1) := by decide +kernel
theorem dX11_markLine_94 : decode cX11_markLine 94 = .ok (.if_icmp .ne 31, 3) := by decide +kernel
theorem dX11_markLine_97 : decode cX11_markLine 97 = .ok (.aload_n 0, 1) := by decide +kernel
theorem dX11_markLine_98 : decode cX11_markLine 98 = .ok (.getfield 23, 3) := by decide +kernel
theorem dX11_markLine_101 : decode cX11_markLine 101 = .ok (.bipush 44, 2) := by decide +kernel
theorem dX11_markLine_103 : decode cX11_markLine 103 = .ok (.iconst 3, 1) := by decide +kernel
theorem dX11_markLine_104 : decode cX11_markLine 104 = .ok (.iload 5, 2) := by decide +kernel
theorem dX11_markLine_106 : decode cX11_markLine 106 = .ok (.imul, 1) := by decide +kernel
theorem dX11_markLine_107 : decode cX11_markLine 107 = .ok (.iadd, 1) := by decide +kernel
theorem dX11_markLine_108 : decode cX11_markLine 108 = .ok (.iconst 2, 1) := by decide +kernel
theorem dX11_markLine_109 : decode cX11_markLine 109 = .ok (.iadd, 1) := by decide +kernel
theorem dX11_markLine_110 : decode cX11_markLine 110 = .ok (.iaload, 1) := by decide +kernel
theorem dX11_markLine_111 : decode cX11_markLine 111 = .ok (.iload 4, 2) := by decide +kernel
theorem dX11_markLine_113 : decode cX11_markLine 113 = .ok (.if_icmp .ne 12, 3) := by decide +kernel
theorem dX11_markLine_116 : decode cX11_markLine 116 = .ok (.aload_n 0, 1) := by decide +kernel
theorem dX11_markLine_117 : decode cX11_markLine 117 = .ok (.iconst 3, 1) := by decide +kernel
theorem dX11_markLine_118 : decode cX11_markLine 118 = .ok (.aload_n 0, 1) := by decide +kernel
theorem dX11_markLine_119 : decode cX11_markLine 119 = .ok (.getfield 102, 3) := by decide +kernel
theorem dX11_markLine_122 : decode cX11_markLine 122 = .ok (.invokevirtual 148, 3) := by decide +kernel
theorem dX11_markLine_125 : decode cX11_markLine 125 = .ok (.iinc 5 1, 3) := by decide +kernel
theorem dX11_markLine_128 : decode cX11_markLine 128 = .ok (.goto (-66), 3) := by decide +kernel
theorem dX11_markLine_131 : decode cX11_markLine 131 = .ok (.aload_n 0, 1) := by decide +kernel
theorem dX11_markLine_132 : decode cX11_markLine 132 = .ok (.getfield 121, 3) := by decide +kernel
theorem dX11_markLine_135 : decode cX11_markLine 135 = .ok (.ifCond .eq 4, 3) := by decide +kernel
theorem dX11_markLine_138 : decode cX11_markLine 138 = .ok (.return_, 1) := by decide +kernel
theorem dX11_markLine_139 : decode cX11_markLine 139 = .ok (.aload_n 0, 1) := by decide +kernel
theorem dX11_markLine_140 : decode cX11_markLine 140 = .ok (.invokevirtual 142, 3) := by decide +kernel
theorem dX11_markLine_143 : decode cX11_markLine 143 = .ok (.aload_n 0, 1) := by decide +kernel
theorem dX11_markLine_144 : decode cX11_markLine 144 = .ok (.getfield 23, 3) := by decide +kernel
theorem dX11_markLine_147 : decode cX11_markLine 147 = .ok (.iload_n 1, 1) := by decide +kernel
theorem dX11_markLine_148 : decode cX11_markLine 148 = .ok (.iload_n 2, 1) := by decide +kernel
theorem dX11_markLine_149 : decode cX11_markLine 149 = .ok (.iastore, 1) := by decide +kernel
theorem dX11_markLine_150 : decode cX11_markLine 150 = .ok (.aload_n 0, 1) := by decide +kernel
theorem dX11_markLine_151 : decode cX11_markLine 151 = .ok (.getfield 23, 3) := by decide +kernel
theorem dX11_markLine_154 : decode cX11_markLine 154 = .ok (.iload_n 1, 1) := by decide +kernel
theorem dX11_markLine_155 : decode cX11_markLine 155 = .ok (.iconst 1, 1) := by decide +kernel
theorem dX11_markLine_156 : decode cX11_markLine 156 = .ok (.iadd, 1) := by decide +kernel
theorem dX11_markLine_157 : decode cX11_markLine 157 = .ok (.iload_n 3, 1) := by decide +kernel
theorem dX11_markLine_158 : decode cX11_markLine 158 = .ok (.iastore, 1) := by decide +kernel
theorem dX11_markLine_159 : decode cX11_markLine 159 = .ok (.aload_n 0, 1) := by decide +kernel
theorem dX11_markLine_160 : decode cX11_markLine 160 = .ok (.getfield 23, 3) := by decide +kernel
theorem dX11_markLine_163 : decode cX11_markLine 163 = .ok (.iload_n 1, 1) := by decide +kernel
theorem dX11_markLine_164 : decode cX11_markLine 164 = .ok (.iconst 2, 1) := by decide +kernel
theorem dX11_markLine_165 : decode cX11_markLine 165 = .ok (.iadd, 1) := by decide +kernel
theorem dX11_markLine_166 : decode cX11_markLine 166 = .ok (.iload 4, 2) := by decide +kernel
theorem dX11_markLine_168 : decode cX11_markLine 168 = .ok (.iastore, 1) := by decide +kernel
theorem dX11_markLine_169 : decode cX11_markLine 169 = .ok (.aload_n 0, 1) := by decide +kernel
theorem dX11_markLine_170 : decode cX11_markLine 170 = .ok (.getfield 23, 3) := by decide +kernel
theorem dX11_markLine_173 : decode cX11_markLine 173 = .ok (.bipush 8, 2) := by decide +kernel
theorem dX11_markLine_175 : decode cX11_markLine 175 = .ok (.dup2, 1) := by decide +kernel
theorem dX11_markLine_176 : decode cX11_markLine 176 = .ok (.iaload, 1) := by decide +kernel
theorem dX11_markLine_177 : decode cX11_markLine 177 = .ok (.iconst 1, 1) := by decide +kernel
theorem dX11_markLine_178 : decode cX11_markLine 178 = .ok (.iadd, 1) := by decide +kernel
theorem dX11_markLine_179 : decode cX11_markLine 179 = .ok (.iastore, 1) := by decide +kernel
theorem dX11_markLine_180 : decode cX11_markLine 180 = .ok (.return_, 1) := by decide +kernel
set_option maxHeartbeats 4000000 in
set_option maxRecDepth 100000 in
theorem m_markLine (l : Launch) (g : Gx) (h0 : Nat) (m_thrown : Int32) (a_tape : Nat) (m_taped : Int32) (m_size : Int32) (m_at : Int32) (m_end : Int32) (m_token : Int32) (m_whole : Int32) (m_nameSize : Int32) (m_fault : Int32) (m_place : Int32) (m_trouble : Int32) (a_letters : Nat) (m_failed : Int32) (m_hasHouse : Int32) (a_r : Nat) (a_fresh : Nat) (a_st : Nat) (a_undone : Nat) (a_kept : Nat) (m_undos : Int32) (m_images : Int32) (a_from : Nat) (a_begin : Nat) (a_motor : Nat) (a_change : Nat) (a_startFrame : Nat) (a_changeFrame : Nat) (a_lostAt : Nat) (a_blackAt : Nat) (a_slips : Nat) (a_leftArc : Nat) (a_died : Nat) (a_arcs : Nat) (m_bestSum : Int32) (m_nearest : Int32) (m_nearestTown : Int32) (a_there : Nat) (a_backAt : Nat) (a_sorted : Nat) (a_parts : Nat) (m_seed1 : Int32) (m_darkNow : Int32) (d_tape : Nat → Int32) (d_letters : Nat → Int32) (d_fresh : Nat → Int32) (hv_m_size : IV m_size 0 900) (hv_m_end : IV m_end 0 900) (hv_m_nameSize : IV m_nameSize 0 900) (hv_m_failed : IV m_failed 0 1) (hp_d_fresh : RInv d_fresh) (hc_0 : m_failed = 1 ∨ ((d_fresh 8).toInt ≤ 11)) (hc_1 : m_token = 2 → IV m_nameSize 0 8) : cV l g yX11_markLine cX11_markLine 6 8 173 0 0 [.ref h0] [(h0, .inr (11, [.int m_thrown, .ref a_tape, .int m_taped, .int m_size, .int m_at, .int m_end, .int m_token, .int m_whole, .int m_nameSize, .int m_fault, .int m_place, .int m_trouble, .ref a_letters, .int m_failed, .int m_hasHouse, .ref a_r, .ref a_fresh, .ref a_st, .ref a_undone, .ref a_kept, .int m_undos, .int m_images, .ref a_from, .ref a_begin, .ref a_motor, .ref a_change, .ref a_startFrame, .ref a_changeFrame, .ref a_lostAt, .ref a_blackAt, .ref a_slips, .ref a_leftArc, .ref a_died, .ref a_arcs, .int m_bestSum, .int m_nearest, .int m_nearestTown, .ref a_there, .ref a_backAt, .ref a_sorted, .ref a_parts, .int m_seed1, .int m_darkNow])), (a_tape, .inl (g.2.2.1, 900, .inl d_tape)), (a_letters, .inl (g.2.2.1, 8, .inl d_letters)), (a_fresh, .inl (g.2.2.1, 311, .inl d_fresh))] (fun w => ∃ (m_at2 : Int32) (m_end2 : Int32) (m_failed2 : Int32) (m_fault2 : Int32) (d_fresh2 : Nat → Int32) (d_letters2 : Nat → Int32) (m_nameSize2 : Int32) (m_place2 : Int32) (m_token2 : Int32) (m_whole2 : Int32), IV m_end2 0 900 ∧ IV m_failed2 0 1 ∧ IV m_nameSize2 0 900 ∧ RInv d_fresh2 ∧ (m_end.toInt ≤ m_end2.toInt) ∧ (m_token2 = 2 → IV m_nameSize2 0 8) ∧ w = [(h0, .inr (11, [.int m_thrown, .ref a_tape, .int m_taped, .int m_size, .int m_at2, .int m_end2, .int m_token2, .int m_whole2, .int m_nameSize2, .int m_fault2, .int m_place2, .int m_trouble, .ref a_letters, .int m_failed2, .int m_hasHouse, .ref a_r, .ref a_fresh, .ref a_st, .ref a_undone, .ref a_kept, .int m_undos, .int m_images, .ref a_from, .ref a_begin, .ref a_motor, .ref a_change, .ref a_startFrame, .ref a_changeFrame, .ref a_lostAt, .ref a_blackAt, .ref a_slips, .ref a_leftArc, .ref a_died, .ref a_arcs, .int m_bestSum, .int m_nearest, .int m_nearestTown, .ref a_there, .ref a_backAt, .ref a_sorted, .ref a_parts, .int m_seed1, .int m_darkNow])), (a_tape, .inl (g.2.2.1, 900, .inl d_tape)), (a_letters, .inl (g.2.2.1, 8, .inl d_letters2)), (a_fresh, .inl (g.2.2.1, 311, .inl d_fresh2))]) := by
  refine cV.of (by decide) (Nat.le_of_ble_eq_true rfl) ?_
  intro p e s m args below meth c A X hr hi
  refine k_lveq [(0, .ref h0)] rfl ?_
  refine k_aload_n X dX11_markLine_0 0 rfl ?_
  refine k_get (ci := 11) X inlX11 rfl 13 (by decide) dX11_markLine_1 mw469 0 rfl rfl ?_
  refine k_if_eq 8 X dX11_markLine_4 (by decide) (fun h_1 => ?_) (fun h_1 => ?_)
  · skip
    have iv_2 : IV m_failed 0 0 := iv_meet hv_m_failed (iv_e h_1 (show IV 0 0 0 from (by decide))) (by decide) (by decide)
    have hc_3 := hc_0.resolve_left (fun q => iv_eqN q iv_2 (show IV 1 1 1 from (by decide)) (by decide))
    have j_4 : (d_fresh 8).toInt ≤ 11 := hc_3
    refine k_bipush (v := 44) X dX11_markLine_8 (by decide) ?_
    refine k_iconst (v := 3) X dX11_markLine_10 (by decide) ?_
    refine k_aload_n X dX11_markLine_11 0 rfl ?_
    refine k_get (ci := 11) X inlX11 rfl 16 (by decide) dX11_markLine_12 mw171 0 rfl rfl ?_
    refine k_bipush (v := 8) X dX11_markLine_15 (by decide) ?_
    refine k_iald X dX11_markLine_17 3 rfl (by unfold vp_in; decide) ?_
    refine k_nm (fun z_5 ez_5 => ?_)
    have i_6 : z_5.toInt = (d_fresh 8).toInt := by rw [ez_5]; rfl
    have iv_7 : IV z_5 0 11 := by have := rb_8 ez_5 hp_d_fresh; rw [IV]; omega
    refine k_imul X dX11_markLine_18 ?_
    refine k_nm (fun z_8 ez_8 => ?_)
    have i_9 : z_8.toInt = 3 * z_5.toInt := in_mul ez_8 (by decide) (by decide) iv_7 (by decide) (by decide)
    have iv_10 : IV z_8 0 33 := by have := (show IV 3 3 3 from (by decide)); have := iv_7; rw [IV, i_9]; omega
    refine k_iadd X dX11_markLine_19 ?_
    refine k_nm (fun z_11 ez_11 => ?_)
    have i_12 : z_11.toInt = 44 + z_8.toInt := in_add ez_11 (show IV 44 44 44 from (by decide)) iv_10 (by decide) (by decide)
    have iv_13 : IV z_11 44 77 := by have := (show IV 44 44 44 from (by decide)); have := iv_10; rw [IV, i_12]; omega
    refine k_istore_n [(1, .int z_11), (0, .ref h0)] X dX11_markLine_20 (by decide) rfl ?_
    refine k_aload_n X dX11_markLine_21 1 rfl ?_
    refine k_callVI (n := 0) (As := []) (st := []) X [(h0, .inr (11, [.int m_thrown, .ref a_tape, .int m_taped, .int m_size, .int m_at, .int m_end, .int m_token, .int m_whole, .int m_nameSize, .int m_fault, .int m_place, .int m_trouble, .ref a_letters, .int m_failed, .int m_hasHouse, .ref a_r, .ref a_fresh, .ref a_st, .ref a_undone, .ref a_kept, .int m_undos, .int m_images, .ref a_from, .ref a_begin, .ref a_motor, .ref a_change, .ref a_startFrame, .ref a_changeFrame, .ref a_lostAt, .ref a_blackAt, .ref a_slips, .ref a_leftArc, .ref a_died, .ref a_arcs, .int m_bestSum, .int m_nearest, .int m_nearestTown, .ref a_there, .ref a_backAt, .ref a_sorted, .ref a_parts, .int m_seed1, .int m_darkNow])), (a_tape, .inl (g.2.2.1, 900, .inl d_tape)), (a_letters, .inl (g.2.2.1, 8, .inl d_letters)), (a_fresh, .inl (g.2.2.1, 311, .inl d_fresh))] [] [0, 1, 2, 3] [] (m_reelPassed l g h0 m_thrown a_tape m_taped m_size m_at m_end m_token m_whole m_nameSize m_fault m_place m_trouble a_letters m_failed m_hasHouse a_r a_fresh a_st a_undone a_kept m_undos m_images a_from a_begin a_motor a_change a_startFrame a_changeFrame a_lostAt a_blackAt a_slips a_leftArc a_died a_arcs m_bestSum m_nearest m_nearestTown a_there a_backAt a_sorted a_parts m_seed1 m_darkNow d_tape d_letters d_fresh (iv_w hv_m_size (by decide) (by decide)) (iv_w hv_m_end (by decide) (by decide)) (iv_w hv_m_nameSize (by decide) (by decide)) (iv_w iv_2 (by decide) (by decide)) hp_d_fresh hc_1) dX11_markLine_22 mw571 mw572 mw573 mw5 mw574 rfl 11 rfl rfl 0 _ rfl (by unfold yOk; decide) rfl (Nat.le_of_ble_eq_true rfl) (Nat.le_of_ble_eq_true rfl) (Nat.le_of_ble_eq_true rfl) (Nat.le_of_ble_eq_true rfl) (Nat.le_of_ble_eq_true rfl) rfl rfl (by decide) rfl (by decide) (by decide) ?_
    rintro r_23 w ⟨m_at2_14, m_end2_15, m_failed2_16, m_fault2_17, d_letters2_18, m_nameSize2_19, m_place2_20, m_token2_21, m_whole2_22, iv_24, iv_25, iv_26, iv_27, hq_28, hk_29, rfl⟩
    refine k_ws [(h0, .inr (11, [.int m_thrown, .ref a_tape, .int m_taped, .int m_size, .int m_at2_14, .int m_end2_15, .int m_token2_21, .int m_whole2_22, .int m_nameSize2_19, .int m_fault2_17, .int m_place2_20, .int m_trouble, .ref a_letters, .int m_failed2_16, .int m_hasHouse, .ref a_r, .ref a_fresh, .ref a_st, .ref a_undone, .ref a_kept, .int m_undos, .int m_images, .ref a_from, .ref a_begin, .ref a_motor, .ref a_change, .ref a_startFrame, .ref a_changeFrame, .ref a_lostAt, .ref a_blackAt, .ref a_slips, .ref a_leftArc, .ref a_died, .ref a_arcs, .int m_bestSum, .int m_nearest, .int m_nearestTown, .ref a_there, .ref a_backAt, .ref a_sorted, .ref a_parts, .int m_seed1, .int m_darkNow])), (a_tape, .inl (g.2.2.1, 900, .inl d_tape)), (a_letters, .inl (g.2.2.1, 8, .inl d_letters2_18)), (a_fresh, .inl (g.2.2.1, 311, .inl d_fresh))] rfl ?_
    refine k_istore_n [(2, .int r_23), (1, .int z_11), (0, .ref h0)] X dX11_markLine_25 (by decide) rfl ?_
    refine k_aload_n X dX11_markLine_26 2 rfl ?_
    refine k_get (ci := 11) X inlX11 rfl 13 (by decide) dX11_markLine_27 mw469 0 rfl rfl ?_
    refine k_if_eq 37 X dX11_markLine_30 (by decide) (fun h_30 => ?_) (fun h_30 => ?_)
    · skip
      have iv_31 : IV m_failed2_16 0 0 := iv_meet iv_25 (iv_e h_30 (show IV 0 0 0 from (by decide))) (by decide) (by decide)
      refine k_aload_n X dX11_markLine_37 2 rfl ?_
      refine k_iload_n X dX11_markLine_38 0 rfl ?_
      refine k_callVI (n := 1) (As := [.int r_23]) (st := []) X [(h0, .inr (11, [.int m_thrown, .ref a_tape, .int m_taped, .int m_size, .int m_at2_14, .int m_end2_15, .int m_token2_21, .int m_whole2_22, .int m_nameSize2_19, .int m_fault2_17, .int m_place2_20, .int m_trouble, .ref a_letters, .int m_failed2_16, .int m_hasHouse, .ref a_r, .ref a_fresh, .ref a_st, .ref a_undone, .ref a_kept, .int m_undos, .int m_images, .ref a_from, .ref a_begin, .ref a_motor, .ref a_change, .ref a_startFrame, .ref a_changeFrame, .ref a_lostAt, .ref a_blackAt, .ref a_slips, .ref a_leftArc, .ref a_died, .ref a_arcs, .int m_bestSum, .int m_nearest, .int m_nearestTown, .ref a_there, .ref a_backAt, .ref a_sorted, .ref a_parts, .int m_seed1, .int m_darkNow])), (a_tape, .inl (g.2.2.1, 900, .inl d_tape)), (a_letters, .inl (g.2.2.1, 8, .inl d_letters2_18)), (a_fresh, .inl (g.2.2.1, 311, .inl d_fresh))] [] [0, 1, 2, 3] [] (m_frameOf l g h0 r_23 m_thrown a_tape m_taped m_size m_at2_14 m_end2_15 m_token2_21 m_whole2_22 m_nameSize2_19 m_fault2_17 m_place2_20 m_trouble a_letters m_failed2_16 m_hasHouse a_r a_fresh a_st a_undone a_kept m_undos m_images a_from a_begin a_motor a_change a_startFrame a_changeFrame a_lostAt a_blackAt a_slips a_leftArc a_died a_arcs m_bestSum m_nearest m_nearestTown a_there a_backAt a_sorted a_parts m_seed1 m_darkNow d_tape d_letters2_18 d_fresh (iv_w iv_27 (by decide) (by decide)) (iv_w hv_m_size (by decide) (by decide)) (iv_w iv_24 (by decide) (by decide)) (iv_w iv_26 (by decide) (by decide)) (iv_w iv_31 (by decide) (by decide)) hp_d_fresh hk_29) dX11_markLine_39 mw579 mw580 mw581 mw5 mw582 rfl 11 rfl rfl 0 _ rfl (by unfold yOk; decide) rfl (Nat.le_of_ble_eq_true rfl) (Nat.le_of_ble_eq_true rfl) (Nat.le_of_ble_eq_true rfl) (Nat.le_of_ble_eq_true rfl) (Nat.le_of_ble_eq_true rfl) rfl rfl (by decide) rfl (by decide) (by decide) ?_
      rintro r_41 w ⟨m_at2_32, m_end2_33, m_failed2_34, m_fault2_35, d_letters2_36, m_nameSize2_37, m_place2_38, m_token2_39, m_whole2_40, iv_42, iv_43, iv_44, hq_45, hk_46, rfl⟩
      refine k_ws [(h0, .inr (11, [.int m_thrown, .ref a_tape, .int m_taped, .int m_size, .int m_at2_32, .int m_end2_33, .int m_token2_39, .int m_whole2_40, .int m_nameSize2_37, .int m_fault2_35, .int m_place2_38, .int m_trouble, .ref a_letters, .int m_failed2_34, .int m_hasHouse, .ref a_r, .ref a_fresh, .ref a_st, .ref a_undone, .ref a_kept, .int m_undos, .int m_images, .ref a_from, .ref a_begin, .ref a_motor, .ref a_change, .ref a_startFrame, .ref a_changeFrame, .ref a_lostAt, .ref a_blackAt, .ref a_slips, .ref a_leftArc, .ref a_died, .ref a_arcs, .int m_bestSum, .int m_nearest, .int m_nearestTown, .ref a_there, .ref a_backAt, .ref a_sorted, .ref a_parts, .int m_seed1, .int m_darkNow])), (a_tape, .inl (g.2.2.1, 900, .inl d_tape)), (a_letters, .inl (g.2.2.1, 8, .inl d_letters2_36)), (a_fresh, .inl (g.2.2.1, 311, .inl d_fresh))] rfl ?_
      refine k_istore_n [(3, .int r_41), (2, .int r_23), (1, .int z_11), (0, .ref h0)] X dX11_markLine_42 (by decide) rfl ?_
      refine k_aload_n X dX11_markLine_43 3 rfl ?_
      refine k_ldcS (tx := "by") X dX11_markLine_44 (by decide +kernel) (fun sr_47 hsr_47 => ?_)
      refine k_callVV (n := 1) (As := [.ref sr_47]) (st := []) X [(h0, .inr (11, [.int m_thrown, .ref a_tape, .int m_taped, .int m_size, .int m_at2_32, .int m_end2_33, .int m_token2_39, .int m_whole2_40, .int m_nameSize2_37, .int m_fault2_35, .int m_place2_38, .int m_trouble, .ref a_letters, .int m_failed2_34, .int m_hasHouse, .ref a_r, .ref a_fresh, .ref a_st, .ref a_undone, .ref a_kept, .int m_undos, .int m_images, .ref a_from, .ref a_begin, .ref a_motor, .ref a_change, .ref a_startFrame, .ref a_changeFrame, .ref a_lostAt, .ref a_blackAt, .ref a_slips, .ref a_leftArc, .ref a_died, .ref a_arcs, .int m_bestSum, .int m_nearest, .int m_nearestTown, .ref a_there, .ref a_backAt, .ref a_sorted, .ref a_parts, .int m_seed1, .int m_darkNow])), (a_tape, .inl (g.2.2.1, 900, .inl d_tape)), (a_letters, .inl (g.2.2.1, 8, .inl d_letters2_36))] [(a_fresh, .inl (g.2.2.1, 311, .inl d_fresh))] [0, 1, 2] [3] (m_must l g h0 sr_47 m_thrown a_tape m_taped m_size m_at2_32 m_end2_33 m_token2_39 m_whole2_40 m_nameSize2_37 m_fault2_35 m_place2_38 m_trouble a_letters m_failed2_34 m_hasHouse a_r a_fresh a_st a_undone a_kept m_undos m_images a_from a_begin a_motor a_change a_startFrame a_changeFrame a_lostAt a_blackAt a_slips a_leftArc a_died a_arcs m_bestSum m_nearest m_nearestTown a_there a_backAt a_sorted a_parts m_seed1 m_darkNow d_tape d_letters2_36 ("by") (iv_w hv_m_size (by decide) (by decide)) (iv_w iv_42 (by decide) (by decide)) (iv_w iv_44 (by decide) (by decide)) (iv_w iv_43 (by decide) (by decide)) hsr_47 hk_46) dX11_markLine_46 mw527 mw528 mw529 mw5 mw530 rfl 11 rfl rfl 0 _ rfl (by unfold yOk; decide) rfl (Nat.le_of_ble_eq_true rfl) (Nat.le_of_ble_eq_true rfl) (Nat.le_of_ble_eq_true rfl) (Nat.le_of_ble_eq_true rfl) (Nat.le_of_ble_eq_true rfl) rfl rfl (by decide) rfl (by decide) (by decide) ?_
      rintro w ⟨m_at2_48, m_end2_49, m_failed2_50, m_fault2_51, d_letters2_52, m_nameSize2_53, m_place2_54, m_token2_55, m_whole2_56, iv_58, iv_59, iv_60, hq_61, hk_62, rfl⟩
      refine k_ws [(a_fresh, .inl (g.2.2.1, 311, .inl d_fresh)), (h0, .inr (11, [.int m_thrown, .ref a_tape, .int m_taped, .int m_size, .int m_at2_48, .int m_end2_49, .int m_token2_55, .int m_whole2_56, .int m_nameSize2_53, .int m_fault2_51, .int m_place2_54, .int m_trouble, .ref a_letters, .int m_failed2_50, .int m_hasHouse, .ref a_r, .ref a_fresh, .ref a_st, .ref a_undone, .ref a_kept, .int m_undos, .int m_images, .ref a_from, .ref a_begin, .ref a_motor, .ref a_change, .ref a_startFrame, .ref a_changeFrame, .ref a_lostAt, .ref a_blackAt, .ref a_slips, .ref a_leftArc, .ref a_died, .ref a_arcs, .int m_bestSum, .int m_nearest, .int m_nearestTown, .ref a_there, .ref a_backAt, .ref a_sorted, .ref a_parts, .int m_seed1, .int m_darkNow])), (a_tape, .inl (g.2.2.1, 900, .inl d_tape)), (a_letters, .inl (g.2.2.1, 8, .inl d_letters2_52))] rfl ?_
      refine k_aload_n X dX11_markLine_49 3 rfl ?_
      refine k_bipush (v := 8) X dX11_markLine_50 (by decide) ?_
      refine k_bipush (v := 11) X dX11_markLine_52 (by decide) ?_
      refine k_callVI (n := 2) (As := [.int 8, .int 11]) (st := []) X [(h0, .inr (11, [.int m_thrown, .ref a_tape, .int m_taped, .int m_size, .int m_at2_48, .int m_end2_49, .int m_token2_55, .int m_whole2_56, .int m_nameSize2_53, .int m_fault2_51, .int m_place2_54, .int m_trouble, .ref a_letters, .int m_failed2_50, .int m_hasHouse, .ref a_r, .ref a_fresh, .ref a_st, .ref a_undone, .ref a_kept, .int m_undos, .int m_images, .ref a_from, .ref a_begin, .ref a_motor, .ref a_change, .ref a_startFrame, .ref a_changeFrame, .ref a_lostAt, .ref a_blackAt, .ref a_slips, .ref a_leftArc, .ref a_died, .ref a_arcs, .int m_bestSum, .int m_nearest, .int m_nearestTown, .ref a_there, .ref a_backAt, .ref a_sorted, .ref a_parts, .int m_seed1, .int m_darkNow])), (a_letters, .inl (g.2.2.1, 8, .inl d_letters2_52)), (a_fresh, .inl (g.2.2.1, 311, .inl d_fresh))] [(a_tape, .inl (g.2.2.1, 900, .inl d_tape))] [1, 3, 0] [2] (m_namedT l g h0 m_thrown a_tape m_taped m_size m_at2_48 m_end2_49 m_token2_55 m_whole2_56 m_nameSize2_53 m_fault2_51 m_place2_54 m_trouble a_letters m_failed2_50 m_hasHouse a_r a_fresh a_st a_undone a_kept m_undos m_images a_from a_begin a_motor a_change a_startFrame a_changeFrame a_lostAt a_blackAt a_slips a_leftArc a_died a_arcs m_bestSum m_nearest m_nearestTown a_there a_backAt a_sorted a_parts m_seed1 m_darkNow d_letters2_52 d_fresh (iv_w iv_60 (by decide) (by decide)) (iv_w iv_59 (by decide) (by decide)) hp_d_fresh hk_62) dX11_markLine_54 mw575 mw576 mw577 mw5 mw578 rfl 11 rfl rfl 0 _ rfl (by unfold yOk; decide) rfl (Nat.le_of_ble_eq_true rfl) (Nat.le_of_ble_eq_true rfl) (Nat.le_of_ble_eq_true rfl) (Nat.le_of_ble_eq_true rfl) (Nat.le_of_ble_eq_true rfl) rfl rfl (by decide) rfl (by decide) (by decide) ?_
      rintro r_66 w ⟨m_failed2_63, m_fault2_64, m_place2_65, iv_67, iv_68, rfl⟩
      refine k_ws [(a_tape, .inl (g.2.2.1, 900, .inl d_tape)), (h0, .inr (11, [.int m_thrown, .ref a_tape, .int m_taped, .int m_size, .int m_at2_48, .int m_end2_49, .int m_token2_55, .int m_whole2_56, .int m_nameSize2_53, .int m_fault2_64, .int m_place2_65, .int m_trouble, .ref a_letters, .int m_failed2_63, .int m_hasHouse, .ref a_r, .ref a_fresh, .ref a_st, .ref a_undone, .ref a_kept, .int m_undos, .int m_images, .ref a_from, .ref a_begin, .ref a_motor, .ref a_change, .ref a_startFrame, .ref a_changeFrame, .ref a_lostAt, .ref a_blackAt, .ref a_slips, .ref a_leftArc, .ref a_died, .ref a_arcs, .int m_bestSum, .int m_nearest, .int m_nearestTown, .ref a_there, .ref a_backAt, .ref a_sorted, .ref a_parts, .int m_seed1, .int m_darkNow])), (a_letters, .inl (g.2.2.1, 8, .inl d_letters2_52)), (a_fresh, .inl (g.2.2.1, 311, .inl d_fresh))] rfl ?_
      refine k_istore [(4, .int r_66), (3, .int r_41), (2, .int r_23), (1, .int z_11), (0, .ref h0)] X dX11_markLine_57 (by decide) rfl ?_
      refine k_iconst (v := 0) X dX11_markLine_59 (by decide) ?_
      refine k_istore [(5, .int 0), (4, .int r_66), (3, .int r_41), (2, .int r_23), (1, .int z_11), (0, .ref h0)] X dX11_markLine_60 (by decide) rfl ?_
      refine (fun hL : ∀ (nn_75 : Nat) (u_69 : Int32) (u_71 : Int32) (u_72 : Int32) (u_74 : Int32), (z_5.toInt - u_69.toInt).toNat = nn_75 → (IV u_69 0 255) → (IV u_72 0 1) → Wk p l e _ s m args below meth c _ A g _ _ _ [(a_tape, .inl (g.2.2.1, 900, .inl d_tape)), (h0, .inr (11, [.int m_thrown, .ref a_tape, .int m_taped, .int m_size, .int m_at2_48, .int m_end2_49, .int m_token2_55, .int m_whole2_56, .int m_nameSize2_53, .int u_74, .int u_71, .int m_trouble, .ref a_letters, .int u_72, .int m_hasHouse, .ref a_r, .ref a_fresh, .ref a_st, .ref a_undone, .ref a_kept, .int m_undos, .int m_images, .ref a_from, .ref a_begin, .ref a_motor, .ref a_change, .ref a_startFrame, .ref a_changeFrame, .ref a_lostAt, .ref a_blackAt, .ref a_slips, .ref a_leftArc, .ref a_died, .ref a_arcs, .int m_bestSum, .int m_nearest, .int m_nearestTown, .ref a_there, .ref a_backAt, .ref a_sorted, .ref a_parts, .int m_seed1, .int m_darkNow])), (a_letters, .inl (g.2.2.1, 8, .inl d_letters2_52)), (a_fresh, .inl (g.2.2.1, 311, .inl d_fresh))] [(5, .int u_69), (4, .int r_66), (3, .int r_41), (2, .int r_23), (1, .int z_11), (0, .ref h0)] 62 [] => hL _ 0 m_place2_65 m_failed2_63 m_fault2_64 rfl (iv_w (show IV 0 0 0 from (by decide)) (by decide) (by decide)) (iv_w iv_67 (by decide) (by decide))) ?_
      refine fun nn_75 => Nat.strongRecOn nn_75 (fun nn_75 ih_77 => ?_)
      intro u_69 u_71 u_72 u_74 hm_76 hv_70 hv_73
      refine k_iload X dX11_markLine_62 0 rfl ?_
      refine k_aload_n X dX11_markLine_64 5 rfl ?_
      refine k_get (ci := 11) X inlX11 rfl 16 (by decide) dX11_markLine_65 mw171 1 rfl rfl ?_
      refine k_bipush (v := 8) X dX11_markLine_68 (by decide) ?_
      refine k_iald X dX11_markLine_70 3 rfl (by unfold vp_in; decide) ?_
      refine k_to z_5 ez_5.symm ?_
      refine k_ic_ge 131 X dX11_markLine_71 (by decide) (fun h_78 => ?_) (fun h_78 => ?_)
      · skip
        have j_79 : z_5.toInt ≤ u_69.toInt := iv_le h_78
        refine k_aload_n X dX11_markLine_131 5 rfl ?_
        refine k_get (ci := 11) X inlX11 rfl 13 (by decide) dX11_markLine_132 mw469 1 rfl rfl ?_
        refine k_if_eq 139 X dX11_markLine_135 (by decide) (fun h_80 => ?_) (fun h_80 => ?_)
        · skip
          have iv_81 : IV u_72 0 0 := iv_meet hv_73 (iv_e h_80 (show IV 0 0 0 from (by decide))) (by decide) (by decide)
          refine k_aload_n X dX11_markLine_139 5 rfl ?_
          refine k_callVV (n := 0) (As := []) (st := []) X [(h0, .inr (11, [.int m_thrown, .ref a_tape, .int m_taped, .int m_size, .int m_at2_48, .int m_end2_49, .int m_token2_55, .int m_whole2_56, .int m_nameSize2_53, .int u_74, .int u_71, .int m_trouble, .ref a_letters, .int u_72, .int m_hasHouse, .ref a_r, .ref a_fresh, .ref a_st, .ref a_undone, .ref a_kept, .int m_undos, .int m_images, .ref a_from, .ref a_begin, .ref a_motor, .ref a_change, .ref a_startFrame, .ref a_changeFrame, .ref a_lostAt, .ref a_blackAt, .ref a_slips, .ref a_leftArc, .ref a_died, .ref a_arcs, .int m_bestSum, .int m_nearest, .int m_nearestTown, .ref a_there, .ref a_backAt, .ref a_sorted, .ref a_parts, .int m_seed1, .int m_darkNow])), (a_tape, .inl (g.2.2.1, 900, .inl d_tape)), (a_letters, .inl (g.2.2.1, 8, .inl d_letters2_52))] [(a_fresh, .inl (g.2.2.1, 311, .inl d_fresh))] [1, 0, 2] [3] (m_next l g h0 m_thrown a_tape m_taped m_size m_at2_48 m_end2_49 m_token2_55 m_whole2_56 m_nameSize2_53 u_74 u_71 m_trouble a_letters u_72 m_hasHouse a_r a_fresh a_st a_undone a_kept m_undos m_images a_from a_begin a_motor a_change a_startFrame a_changeFrame a_lostAt a_blackAt a_slips a_leftArc a_died a_arcs m_bestSum m_nearest m_nearestTown a_there a_backAt a_sorted a_parts m_seed1 m_darkNow d_tape d_letters2_52 (iv_w hv_m_size (by decide) (by decide)) (iv_w iv_58 (by decide) (by decide)) (iv_w iv_60 (by decide) (by decide))) dX11_markLine_140 mw489 mw490 mw491 mw5 mw492 rfl 11 rfl rfl 0 _ rfl (by unfold yOk; decide) rfl (Nat.le_of_ble_eq_true rfl) (Nat.le_of_ble_eq_true rfl) (Nat.le_of_ble_eq_true rfl) (Nat.le_of_ble_eq_true rfl) (Nat.le_of_ble_eq_true rfl) rfl rfl (by decide) rfl (by decide) (by decide) ?_
          rintro w ⟨m_at2_82, m_end2_83, d_letters2_84, m_nameSize2_85, m_token2_86, m_whole2_87, iv_89, iv_90, hq_91, hq_92, hk_93, rfl⟩
          refine k_ws [(a_fresh, .inl (g.2.2.1, 311, .inl d_fresh)), (h0, .inr (11, [.int m_thrown, .ref a_tape, .int m_taped, .int m_size, .int m_at2_82, .int m_end2_83, .int m_token2_86, .int m_whole2_87, .int m_nameSize2_85, .int u_74, .int u_71, .int m_trouble, .ref a_letters, .int u_72, .int m_hasHouse, .ref a_r, .ref a_fresh, .ref a_st, .ref a_undone, .ref a_kept, .int m_undos, .int m_images, .ref a_from, .ref a_begin, .ref a_motor, .ref a_change, .ref a_startFrame, .ref a_changeFrame, .ref a_lostAt, .ref a_blackAt, .ref a_slips, .ref a_leftArc, .ref a_died, .ref a_arcs, .int m_bestSum, .int m_nearest, .int m_nearestTown, .ref a_there, .ref a_backAt, .ref a_sorted, .ref a_parts, .int m_seed1, .int m_darkNow])), (a_tape, .inl (g.2.2.1, 900, .inl d_tape)), (a_letters, .inl (g.2.2.1, 8, .inl d_letters2_84))] rfl ?_
          refine k_aload_n X dX11_markLine_143 5 rfl ?_
          refine k_get (ci := 11) X inlX11 rfl 16 (by decide) dX11_markLine_144 mw171 1 rfl rfl ?_
          refine k_iload_n X dX11_markLine_147 4 rfl ?_
          refine k_iload_n X dX11_markLine_148 3 rfl ?_
          refine k_iast [(a_fresh, .inl (g.2.2.1, 311, .inl (upd d_fresh (z_11 : Int32).toNatClampNeg r_23))), (h0, .inr (11, [.int m_thrown, .ref a_tape, .int m_taped, .int m_size, .int m_at2_82, .int m_end2_83, .int m_token2_86, .int m_whole2_87, .int m_nameSize2_85, .int u_74, .int u_71, .int m_trouble, .ref a_letters, .int u_72, .int m_hasHouse, .ref a_r, .ref a_fresh, .ref a_st, .ref a_undone, .ref a_kept, .int m_undos, .int m_images, .ref a_from, .ref a_begin, .ref a_motor, .ref a_change, .ref a_startFrame, .ref a_changeFrame, .ref a_lostAt, .ref a_blackAt, .ref a_slips, .ref a_leftArc, .ref a_died, .ref a_arcs, .int m_bestSum, .int m_nearest, .int m_nearestTown, .ref a_there, .ref a_backAt, .ref a_sorted, .ref a_parts, .int m_seed1, .int m_darkNow])), (a_tape, .inl (g.2.2.1, 900, .inl d_tape)), (a_letters, .inl (g.2.2.1, 8, .inl d_letters2_84))] X dX11_markLine_149 0 rfl (iv_in iv_13 (by decide) (by decide)) rfl ?_
          have i_96 : z_11.toInt = 44 + 3 * z_5.toInt := by omega
          refine (fun hg : ∀ fa_94 : Nat → Int32, RInv fa_94 → K16 d_fresh fa_94 → Wk p l e _ s m args below meth c _ A g _ _ _ [(a_fresh, .inl (g.2.2.1, 311, .inl fa_94)), (h0, .inr (11, [.int m_thrown, .ref a_tape, .int m_taped, .int m_size, .int m_at2_82, .int m_end2_83, .int m_token2_86, .int m_whole2_87, .int m_nameSize2_85, .int u_74, .int u_71, .int m_trouble, .ref a_letters, .int u_72, .int m_hasHouse, .ref a_r, .ref a_fresh, .ref a_st, .ref a_undone, .ref a_kept, .int m_undos, .int m_images, .ref a_from, .ref a_begin, .ref a_motor, .ref a_change, .ref a_startFrame, .ref a_changeFrame, .ref a_lostAt, .ref a_blackAt, .ref a_slips, .ref a_leftArc, .ref a_died, .ref a_arcs, .int m_bestSum, .int m_nearest, .int m_nearestTown, .ref a_there, .ref a_backAt, .ref a_sorted, .ref a_parts, .int m_seed1, .int m_darkNow])), (a_tape, .inl (g.2.2.1, 900, .inl d_tape)), (a_letters, .inl (g.2.2.1, 8, .inl d_letters2_84))] _ _ _ => hg _ (w_rb_44_3 hp_d_fresh i_96 (iv_w iv_7 (by decide) (by decide)) (iv_w iv_27 (by decide) (by decide))) (k16_u (by have := iv_13; omega))) (fun fa_94 hR_95 hk_97 => ?_)
          have ek_98 : z_5 = fa_94 (8 : Int32).toNatClampNeg := ez_5.trans (hk_97 _ (by decide)).symm
          refine k_aload_n X dX11_markLine_150 5 rfl ?_
          refine k_get (ci := 11) X inlX11 rfl 16 (by decide) dX11_markLine_151 mw171 1 rfl rfl ?_
          refine k_iload_n X dX11_markLine_154 4 rfl ?_
          refine k_iconst (v := 1) X dX11_markLine_155 (by decide) ?_
          refine k_iadd X dX11_markLine_156 ?_
          refine k_nm (fun z_99 ez_99 => ?_)
          have i_100 : z_99.toInt = z_11.toInt + 1 := in_add ez_99 iv_13 (show IV 1 1 1 from (by decide)) (by decide) (by decide)
          have iv_101 : IV z_99 45 78 := by have := iv_13; have := (show IV 1 1 1 from (by decide)); rw [IV, i_100]; omega
          refine k_iload_n X dX11_markLine_157 2 rfl ?_
          refine k_iast [(a_fresh, .inl (g.2.2.1, 311, .inl (upd fa_94 (z_99 : Int32).toNatClampNeg r_41))), (h0, .inr (11, [.int m_thrown, .ref a_tape, .int m_taped, .int m_size, .int m_at2_82, .int m_end2_83, .int m_token2_86, .int m_whole2_87, .int m_nameSize2_85, .int u_74, .int u_71, .int m_trouble, .ref a_letters, .int u_72, .int m_hasHouse, .ref a_r, .ref a_fresh, .ref a_st, .ref a_undone, .ref a_kept, .int m_undos, .int m_images, .ref a_from, .ref a_begin, .ref a_motor, .ref a_change, .ref a_startFrame, .ref a_changeFrame, .ref a_lostAt, .ref a_blackAt, .ref a_slips, .ref a_leftArc, .ref a_died, .ref a_arcs, .int m_bestSum, .int m_nearest, .int m_nearestTown, .ref a_there, .ref a_backAt, .ref a_sorted, .ref a_parts, .int m_seed1, .int m_darkNow])), (a_tape, .inl (g.2.2.1, 900, .inl d_tape)), (a_letters, .inl (g.2.2.1, 8, .inl d_letters2_84))] X dX11_markLine_158 0 rfl (iv_in iv_101 (by decide) (by decide)) rfl ?_
          have i_104 : z_99.toInt = 45 + 3 * z_5.toInt := by omega
          refine (fun hg : ∀ fa_102 : Nat → Int32, RInv fa_102 → K16 fa_94 fa_102 → Wk p l e _ s m args below meth c _ A g _ _ _ [(a_fresh, .inl (g.2.2.1, 311, .inl fa_102)), (h0, .inr (11, [.int m_thrown, .ref a_tape, .int m_taped, .int m_size, .int m_at2_82, .int m_end2_83, .int m_token2_86, .int m_whole2_87, .int m_nameSize2_85, .int u_74, .int u_71, .int m_trouble, .ref a_letters, .int u_72, .int m_hasHouse, .ref a_r, .ref a_fresh, .ref a_st, .ref a_undone, .ref a_kept, .int m_undos, .int m_images, .ref a_from, .ref a_begin, .ref a_motor, .ref a_change, .ref a_startFrame, .ref a_changeFrame, .ref a_lostAt, .ref a_blackAt, .ref a_slips, .ref a_leftArc, .ref a_died, .ref a_arcs, .int m_bestSum, .int m_nearest, .int m_nearestTown, .ref a_there, .ref a_backAt, .ref a_sorted, .ref a_parts, .int m_seed1, .int m_darkNow])), (a_tape, .inl (g.2.2.1, 900, .inl d_tape)), (a_letters, .inl (g.2.2.1, 8, .inl d_letters2_84))] _ _ _ => hg _ (w_fr_45_3 hR_95 i_104 (iv_w iv_7 (by decide) (by decide))) (k16_u (by have := iv_101; omega))) (fun fa_102 hR_103 hk_105 => ?_)
          have ek_106 : z_5 = fa_102 (8 : Int32).toNatClampNeg := ek_98.trans (hk_105 _ (by decide)).symm
          refine k_aload_n X dX11_markLine_159 5 rfl ?_
          refine k_get (ci := 11) X inlX11 rfl 16 (by decide) dX11_markLine_160 mw171 1 rfl rfl ?_
          refine k_iload_n X dX11_markLine_163 4 rfl ?_
          refine k_iconst (v := 2) X dX11_markLine_164 (by decide) ?_
          refine k_iadd X dX11_markLine_165 ?_
          refine k_nm (fun z_107 ez_107 => ?_)
          have i_108 : z_107.toInt = z_11.toInt + 2 := in_add ez_107 iv_13 (show IV 2 2 2 from (by decide)) (by decide) (by decide)
          have iv_109 : IV z_107 46 79 := by have := iv_13; have := (show IV 2 2 2 from (by decide)); rw [IV, i_108]; omega
          refine k_iload X dX11_markLine_166 1 rfl ?_
          refine k_iast [(a_fresh, .inl (g.2.2.1, 311, .inl (upd fa_102 (z_107 : Int32).toNatClampNeg r_66))), (h0, .inr (11, [.int m_thrown, .ref a_tape, .int m_taped, .int m_size, .int m_at2_82, .int m_end2_83, .int m_token2_86, .int m_whole2_87, .int m_nameSize2_85, .int u_74, .int u_71, .int m_trouble, .ref a_letters, .int u_72, .int m_hasHouse, .ref a_r, .ref a_fresh, .ref a_st, .ref a_undone, .ref a_kept, .int m_undos, .int m_images, .ref a_from, .ref a_begin, .ref a_motor, .ref a_change, .ref a_startFrame, .ref a_changeFrame, .ref a_lostAt, .ref a_blackAt, .ref a_slips, .ref a_leftArc, .ref a_died, .ref a_arcs, .int m_bestSum, .int m_nearest, .int m_nearestTown, .ref a_there, .ref a_backAt, .ref a_sorted, .ref a_parts, .int m_seed1, .int m_darkNow])), (a_tape, .inl (g.2.2.1, 900, .inl d_tape)), (a_letters, .inl (g.2.2.1, 8, .inl d_letters2_84))] X dX11_markLine_168 0 rfl (iv_in iv_109 (by decide) (by decide)) rfl ?_
          have i_112 : z_107.toInt = 46 + 3 * z_5.toInt := by omega
          refine (fun hg : ∀ fa_110 : Nat → Int32, RInv fa_110 → K16 fa_102 fa_110 → Wk p l e _ s m args below meth c _ A g _ _ _ [(a_fresh, .inl (g.2.2.1, 311, .inl fa_110)), (h0, .inr (11, [.int m_thrown, .ref a_tape, .int m_taped, .int m_size, .int m_at2_82, .int m_end2_83, .int m_token2_86, .int m_whole2_87, .int m_nameSize2_85, .int u_74, .int u_71, .int m_trouble, .ref a_letters, .int u_72, .int m_hasHouse, .ref a_r, .ref a_fresh, .ref a_st, .ref a_undone, .ref a_kept, .int m_undos, .int m_images, .ref a_from, .ref a_begin, .ref a_motor, .ref a_change, .ref a_startFrame, .ref a_changeFrame, .ref a_lostAt, .ref a_blackAt, .ref a_slips, .ref a_leftArc, .ref a_died, .ref a_arcs, .int m_bestSum, .int m_nearest, .int m_nearestTown, .ref a_there, .ref a_backAt, .ref a_sorted, .ref a_parts, .int m_seed1, .int m_darkNow])), (a_tape, .inl (g.2.2.1, 900, .inl d_tape)), (a_letters, .inl (g.2.2.1, 8, .inl d_letters2_84))] _ _ _ => hg _ (w_rb_46_3 hR_103 i_112 (iv_w iv_7 (by decide) (by decide)) (iv_w iv_68 (by decide) (by decide))) (k16_u (by have := iv_109; omega))) (fun fa_110 hR_111 hk_113 => ?_)
          have ek_114 : z_5 = fa_110 (8 : Int32).toNatClampNeg := ek_106.trans (hk_113 _ (by decide)).symm
          refine k_aload_n X dX11_markLine_169 5 rfl ?_
          refine k_get (ci := 11) X inlX11 rfl 16 (by decide) dX11_markLine_170 mw171 1 rfl rfl ?_
          refine k_bipush (v := 8) X dX11_markLine_173 (by decide) ?_
          refine k_dup2 X dX11_markLine_175 rfl rfl ?_
          refine k_iald X dX11_markLine_176 0 rfl (by unfold vp_in; decide) ?_
          refine k_to z_5 ek_114.symm ?_
          refine k_iconst (v := 1) X dX11_markLine_177 (by decide) ?_
          refine k_iadd X dX11_markLine_178 ?_
          refine k_nm (fun z_115 ez_115 => ?_)
          have i_116 : z_115.toInt = z_5.toInt + 1 := in_add ez_115 iv_7 (show IV 1 1 1 from (by decide)) (by decide) (by decide)
          have iv_117 : IV z_115 1 12 := by have := iv_7; have := (show IV 1 1 1 from (by decide)); rw [IV, i_116]; omega
          refine k_iast [(a_fresh, .inl (g.2.2.1, 311, .inl (upd fa_110 (8 : Int32).toNatClampNeg z_115))), (h0, .inr (11, [.int m_thrown, .ref a_tape, .int m_taped, .int m_size, .int m_at2_82, .int m_end2_83, .int m_token2_86, .int m_whole2_87, .int m_nameSize2_85, .int u_74, .int u_71, .int m_trouble, .ref a_letters, .int u_72, .int m_hasHouse, .ref a_r, .ref a_fresh, .ref a_st, .ref a_undone, .ref a_kept, .int m_undos, .int m_images, .ref a_from, .ref a_begin, .ref a_motor, .ref a_change, .ref a_startFrame, .ref a_changeFrame, .ref a_lostAt, .ref a_blackAt, .ref a_slips, .ref a_leftArc, .ref a_died, .ref a_arcs, .int m_bestSum, .int m_nearest, .int m_nearestTown, .ref a_there, .ref a_backAt, .ref a_sorted, .ref a_parts, .int m_seed1, .int m_darkNow])), (a_tape, .inl (g.2.2.1, 900, .inl d_tape)), (a_letters, .inl (g.2.2.1, 8, .inl d_letters2_84))] X dX11_markLine_179 0 rfl (by unfold vp_in; decide) rfl ?_
          refine (fun hg : ∀ fa_118 : Nat → Int32, RInv fa_118 → Wk p l e _ s m args below meth c _ A g _ _ _ [(a_fresh, .inl (g.2.2.1, 311, .inl fa_118)), (h0, .inr (11, [.int m_thrown, .ref a_tape, .int m_taped, .int m_size, .int m_at2_82, .int m_end2_83, .int m_token2_86, .int m_whole2_87, .int m_nameSize2_85, .int u_74, .int u_71, .int m_trouble, .ref a_letters, .int u_72, .int m_hasHouse, .ref a_r, .ref a_fresh, .ref a_st, .ref a_undone, .ref a_kept, .int m_undos, .int m_images, .ref a_from, .ref a_begin, .ref a_motor, .ref a_change, .ref a_startFrame, .ref a_changeFrame, .ref a_lostAt, .ref a_blackAt, .ref a_slips, .ref a_leftArc, .ref a_died, .ref a_arcs, .int m_bestSum, .int m_nearest, .int m_nearestTown, .ref a_there, .ref a_backAt, .ref a_sorted, .ref a_parts, .int m_seed1, .int m_darkNow])), (a_tape, .inl (g.2.2.1, 900, .inl d_tape)), (a_letters, .inl (g.2.2.1, 8, .inl d_letters2_84))] _ _ _ => hg _ (w_rb_8 hR_111 (iv_w iv_117 (by decide) (by decide)))) (fun fa_118 hR_119 => ?_)
          exact k_vret X hr dX11_markLine_180 (Nat.le_of_ble_eq_true rfl) (Nat.le_of_ble_eq_true rfl) [1, 2, 3, 0] (by decide) rfl rfl ⟨m_at2_82, m_end2_83, u_72, u_74, fa_118, d_letters2_84, m_nameSize2_85, u_71, m_token2_86, m_whole2_87, (iv_w iv_89 (by decide) (by decide)), (iv_w iv_81 (by decide) (by decide)), (iv_w iv_90 (by decide) (by decide)), hR_119, (by omega), hk_93, rfl⟩
        · skip
          have iv_121 : IV u_72 1 1 := iv_neL h_80 hv_73 (show IV 0 0 0 from (by decide)) (by decide)
          exact k_vret X hr dX11_markLine_138 (Nat.le_of_ble_eq_true rfl) (Nat.le_of_ble_eq_true rfl) [1, 0, 2, 3] (by decide) rfl rfl ⟨m_at2_48, m_end2_49, u_72, u_74, d_fresh, d_letters2_52, m_nameSize2_53, u_71, m_token2_55, m_whole2_56, (iv_w iv_58 (by decide) (by decide)), (iv_w iv_121 (by decide) (by decide)), (iv_w iv_60 (by decide) (by decide)), hp_d_fresh, (by omega), hk_62, rfl⟩
      · skip
        have j_122 : u_69.toInt < z_5.toInt := iv_nle h_78
        have iv_123 : IV u_69 0 10 := iv_ltL (iv_nle h_78) hv_70 iv_7 (by decide)
        have iv_124 : IV z_5 1 11 := iv_ltR (iv_nle h_78) hv_70 iv_7 (by decide)
        refine k_aload_n X dX11_markLine_74 5 rfl ?_
        refine k_get (ci := 11) X inlX11 rfl 13 (by decide) dX11_markLine_75 mw469 1 rfl rfl ?_
        refine k_if_ne 125 X dX11_markLine_78 (by decide) (fun h_125 => ?_) (fun h_125 => ?_)
        · skip
          have iv_126 : IV u_72 1 1 := iv_neL h_125 hv_73 (show IV 0 0 0 from (by decide)) (by decide)
          obtain ⟨z_127, ez_127⟩ : ∃ y : Int32, u_69 + Int32.ofInt 1 = y := ⟨_, rfl⟩
          refine k_iinc z_127 [(5, .int z_127), (4, .int r_66), (3, .int r_41), (2, .int r_23), (1, .int z_11), (0, .ref h0)] 0 X dX11_markLine_125 rfl ez_127 (by decide) rfl ?_
          have i_128 : z_127.toInt = u_69.toInt + 1 := in_inc ez_127 (by decide) iv_123 (by decide) (by decide)
          have iv_129 : IV z_127 1 11 := by have := iv_123; rw [IV, i_128]; omega
          refine k_goto 62 X dX11_markLine_128 (by decide) ?_
          exact ih_77 _ (by omega) z_127 u_71 u_72 u_74 rfl (iv_w iv_129 (by decide) (by decide)) (iv_w iv_126 (by decide) (by decide))
        · skip
          have iv_130 : IV u_72 0 0 := iv_meet hv_73 (iv_e h_125 (show IV 0 0 0 from (by decide))) (by decide) (by decide)
          refine k_aload_n X dX11_markLine_81 5 rfl ?_
          refine k_get (ci := 11) X inlX11 rfl 16 (by decide) dX11_markLine_82 mw171 1 rfl rfl ?_
          refine k_bipush (v := 44) X dX11_markLine_85 (by decide) ?_
          refine k_iconst (v := 3) X dX11_markLine_87 (by decide) ?_
          refine k_iload X dX11_markLine_88 0 rfl ?_
          refine k_imul X dX11_markLine_90 ?_
          refine k_nm (fun z_131 ez_131 => ?_)
          have i_132 : z_131.toInt = 3 * u_69.toInt := in_mul ez_131 (by decide) (by decide) iv_123 (by decide) (by decide)
          have iv_133 : IV z_131 0 30 := by have := (show IV 3 3 3 from (by decide)); have := iv_123; rw [IV, i_132]; omega
          refine k_iadd X dX11_markLine_91 ?_
          refine k_nm (fun z_134 ez_134 => ?_)
          have i_135 : z_134.toInt = 44 + z_131.toInt := in_add ez_134 (show IV 44 44 44 from (by decide)) iv_133 (by decide) (by decide)
          have iv_136 : IV z_134 44 74 := by have := (show IV 44 44 44 from (by decide)); have := iv_133; rw [IV, i_135]; omega
          refine k_iald X dX11_markLine_92 3 rfl (iv_in iv_136 (by decide) (by decide)) ?_
          refine k_nm (fun z_137 ez_137 => ?_)
          have i_138 : z_134.toInt = 44 + 3 * u_69.toInt := by omega
          have iv_139 : IV z_137 0 7 := rb_44_3 ez_137 hp_d_fresh i_138 (iv_w iv_123 (by decide) (by decide))
          refine k_iload_n X dX11_markLine_93 3 rfl ?_
          refine k_ic_ne 125 X dX11_markLine_94 (by decide) (fun h_140 => ?_) (fun h_140 => ?_)
          · skip
            obtain ⟨z_141, ez_141⟩ : ∃ y : Int32, u_69 + Int32.ofInt 1 = y := ⟨_, rfl⟩
            refine k_iinc z_141 [(5, .int z_141), (4, .int r_66), (3, .int r_41), (2, .int r_23), (1, .int z_11), (0, .ref h0)] 0 X dX11_markLine_125 rfl ez_141 (by decide) rfl ?_
            have i_142 : z_141.toInt = u_69.toInt + 1 := in_inc ez_141 (by decide) iv_123 (by decide) (by decide)
            have iv_143 : IV z_141 1 11 := by have := iv_123; rw [IV, i_142]; omega
            refine k_goto 62 X dX11_markLine_128 (by decide) ?_
            exact ih_77 _ (by omega) z_141 u_71 u_72 u_74 rfl (iv_w iv_143 (by decide) (by decide)) (iv_w iv_130 (by decide) (by decide))
          · skip
            refine k_aload_n X dX11_markLine_97 5 rfl ?_
            refine k_get (ci := 11) X inlX11 rfl 16 (by decide) dX11_markLine_98 mw171 1 rfl rfl ?_
            refine k_bipush (v := 44) X dX11_markLine_101 (by decide) ?_
            refine k_iconst (v := 3) X dX11_markLine_103 (by decide) ?_
            refine k_iload X dX11_markLine_104 0 rfl ?_
            refine k_imul X dX11_markLine_106 ?_
            refine k_to z_131 ez_131.symm ?_
            refine k_iadd X dX11_markLine_107 ?_
            refine k_to z_134 ez_134.symm ?_
            refine k_iconst (v := 2) X dX11_markLine_108 (by decide) ?_
            refine k_iadd X dX11_markLine_109 ?_
            refine k_nm (fun z_144 ez_144 => ?_)
            have i_145 : z_144.toInt = z_134.toInt + 2 := in_add ez_144 iv_136 (show IV 2 2 2 from (by decide)) (by decide) (by decide)
            have iv_146 : IV z_144 46 76 := by have := iv_136; have := (show IV 2 2 2 from (by decide)); rw [IV, i_145]; omega
            refine k_iald X dX11_markLine_110 3 rfl (iv_in iv_146 (by decide) (by decide)) ?_
            refine k_nm (fun z_147 ez_147 => ?_)
            have i_148 : z_144.toInt = 46 + 3 * u_69.toInt := by omega
            have iv_149 : IV z_147 0 3 := rb_46_3 ez_147 hp_d_fresh i_148 (iv_w iv_123 (by decide) (by decide))
            refine k_iload X dX11_markLine_111 1 rfl ?_
            refine k_ic_ne 125 X dX11_markLine_113 (by decide) (fun h_150 => ?_) (fun h_150 => ?_)
            · skip
              obtain ⟨z_151, ez_151⟩ : ∃ y : Int32, u_69 + Int32.ofInt 1 = y := ⟨_, rfl⟩
              refine k_iinc z_151 [(5, .int z_151), (4, .int r_66), (3, .int r_41), (2, .int r_23), (1, .int z_11), (0, .ref h0)] 0 X dX11_markLine_125 rfl ez_151 (by decide) rfl ?_
              have i_152 : z_151.toInt = u_69.toInt + 1 := in_inc ez_151 (by decide) iv_123 (by decide) (by decide)
              have iv_153 : IV z_151 1 11 := by have := iv_123; rw [IV, i_152]; omega
              refine k_goto 62 X dX11_markLine_128 (by decide) ?_
              exact ih_77 _ (by omega) z_151 u_71 u_72 u_74 rfl (iv_w iv_153 (by decide) (by decide)) (iv_w iv_130 (by decide) (by decide))
            · skip
              refine k_aload_n X dX11_markLine_116 5 rfl ?_
              refine k_iconst (v := 3) X dX11_markLine_117 (by decide) ?_
              refine k_aload_n X dX11_markLine_118 5 rfl ?_
              refine k_get (ci := 11) X inlX11 rfl 4 (by decide) dX11_markLine_119 mw473 1 rfl rfl ?_
              refine k_callVV (n := 2) (As := [.int 3, .int m_at2_48]) (st := []) X [(h0, .inr (11, [.int m_thrown, .ref a_tape, .int m_taped, .int m_size, .int m_at2_48, .int m_end2_49, .int m_token2_55, .int m_whole2_56, .int m_nameSize2_53, .int u_74, .int u_71, .int m_trouble, .ref a_letters, .int u_72, .int m_hasHouse, .ref a_r, .ref a_fresh, .ref a_st, .ref a_undone, .ref a_kept, .int m_undos, .int m_images, .ref a_from, .ref a_begin, .ref a_motor, .ref a_change, .ref a_startFrame, .ref a_changeFrame, .ref a_lostAt, .ref a_blackAt, .ref a_slips, .ref a_leftArc, .ref a_died, .ref a_arcs, .int m_bestSum, .int m_nearest, .int m_nearestTown, .ref a_there, .ref a_backAt, .ref a_sorted, .ref a_parts, .int m_seed1, .int m_darkNow]))] [(a_tape, .inl (g.2.2.1, 900, .inl d_tape)), (a_letters, .inl (g.2.2.1, 8, .inl d_letters2_52)), (a_fresh, .inl (g.2.2.1, 311, .inl d_fresh))] [1] [0, 2, 3] (m_bad l g h0 3 m_at2_48 m_thrown a_tape m_taped m_size m_at2_48 m_end2_49 m_token2_55 m_whole2_56 m_nameSize2_53 u_74 u_71 m_trouble a_letters u_72 m_hasHouse a_r a_fresh a_st a_undone a_kept m_undos m_images a_from a_begin a_motor a_change a_startFrame a_changeFrame a_lostAt a_blackAt a_slips a_leftArc a_died a_arcs m_bestSum m_nearest m_nearestTown a_there a_backAt a_sorted a_parts m_seed1 m_darkNow (iv_w iv_130 (by decide) (by decide))) dX11_markLine_122 mw519 mw520 mw521 mw5 mw522 rfl 11 rfl rfl 0 _ rfl (by unfold yOk; decide) rfl (Nat.le_of_ble_eq_true rfl) (Nat.le_of_ble_eq_true rfl) (Nat.le_of_ble_eq_true rfl) (Nat.le_of_ble_eq_true rfl) (Nat.le_of_ble_eq_true rfl) rfl rfl (by decide) rfl (by decide) (by decide) ?_
              rintro w ⟨m_failed2_154, m_fault2_155, m_place2_156, iv_158, rfl⟩
              refine k_ws [(a_tape, .inl (g.2.2.1, 900, .inl d_tape)), (a_letters, .inl (g.2.2.1, 8, .inl d_letters2_52)), (a_fresh, .inl (g.2.2.1, 311, .inl d_fresh)), (h0, .inr (11, [.int m_thrown, .ref a_tape, .int m_taped, .int m_size, .int m_at2_48, .int m_end2_49, .int m_token2_55, .int m_whole2_56, .int m_nameSize2_53, .int m_fault2_155, .int m_place2_156, .int m_trouble, .ref a_letters, .int m_failed2_154, .int m_hasHouse, .ref a_r, .ref a_fresh, .ref a_st, .ref a_undone, .ref a_kept, .int m_undos, .int m_images, .ref a_from, .ref a_begin, .ref a_motor, .ref a_change, .ref a_startFrame, .ref a_changeFrame, .ref a_lostAt, .ref a_blackAt, .ref a_slips, .ref a_leftArc, .ref a_died, .ref a_arcs, .int m_bestSum, .int m_nearest, .int m_nearestTown, .ref a_there, .ref a_backAt, .ref a_sorted, .ref a_parts, .int m_seed1, .int m_darkNow]))] rfl ?_
              obtain ⟨z_159, ez_159⟩ : ∃ y : Int32, u_69 + Int32.ofInt 1 = y := ⟨_, rfl⟩
              refine k_iinc z_159 [(5, .int z_159), (4, .int r_66), (3, .int r_41), (2, .int r_23), (1, .int z_11), (0, .ref h0)] 0 X dX11_markLine_125 rfl ez_159 (by decide) rfl ?_
              have i_160 : z_159.toInt = u_69.toInt + 1 := in_inc ez_159 (by decide) iv_123 (by decide) (by decide)
              have iv_161 : IV z_159 1 11 := by have := iv_123; rw [IV, i_160]; omega
              refine k_goto 62 X dX11_markLine_128 (by decide) ?_
              refine k_sub [(a_tape, .inl (g.2.2.1, 900, .inl d_tape)), (h0, .inr (11, [.int m_thrown, .ref a_tape, .int m_taped, .int m_size, .int m_at2_48, .int m_end2_49, .int m_token2_55, .int m_whole2_56, .int m_nameSize2_53, .int m_fault2_155, .int m_place2_156, .int m_trouble, .ref a_letters, .int m_failed2_154, .int m_hasHouse, .ref a_r, .ref a_fresh, .ref a_st, .ref a_undone, .ref a_kept, .int m_undos, .int m_images, .ref a_from, .ref a_begin, .ref a_motor, .ref a_change, .ref a_startFrame, .ref a_changeFrame, .ref a_lostAt, .ref a_blackAt, .ref a_slips, .ref a_leftArc, .ref a_died, .ref a_arcs, .int m_bestSum, .int m_nearest, .int m_nearestTown, .ref a_there, .ref a_backAt, .ref a_sorted, .ref a_parts, .int m_seed1, .int m_darkNow])), (a_letters, .inl (g.2.2.1, 8, .inl d_letters2_52)), (a_fresh, .inl (g.2.2.1, 311, .inl d_fresh))] [0, 3, 1, 2] rfl (by decide) rfl ?_
              exact ih_77 _ (by omega) z_159 m_place2_156 m_failed2_154 m_fault2_155 rfl (iv_w iv_161 (by decide) (by decide)) (iv_w iv_158 (by decide) (by decide))
    · skip
      have iv_162 : IV m_failed2_16 1 1 := iv_neL h_30 iv_25 (show IV 0 0 0 from (by decide)) (by decide)
      refine k_iconst (v := 0) X dX11_markLine_33 (by decide) ?_
      refine k_goto 42 X dX11_markLine_34 (by decide) ?_
      refine k_istore_n [(3, .int 0), (2, .int r_23), (1, .int z_11), (0, .ref h0)] X dX11_markLine_42 (by decide) rfl ?_
      refine k_aload_n X dX11_markLine_43 3 rfl ?_
      refine k_ldcS (tx := "by") X dX11_markLine_44 (by decide +kernel) (fun sr_163 hsr_163 => ?_)
      refine k_callVV (n := 1) (As := [.ref sr_163]) (st := []) X [(h0, .inr (11, [.int m_thrown, .ref a_tape, .int m_taped, .int m_size, .int m_at2_14, .int m_end2_15, .int m_token2_21, .int m_whole2_22, .int m_nameSize2_19, .int m_fault2_17, .int m_place2_20, .int m_trouble, .ref a_letters, .int m_failed2_16, .int m_hasHouse, .ref a_r, .ref a_fresh, .ref a_st, .ref a_undone, .ref a_kept, .int m_undos, .int m_images, .ref a_from, .ref a_begin, .ref a_motor, .ref a_change, .ref a_startFrame, .ref a_changeFrame, .ref a_lostAt, .ref a_blackAt, .ref a_slips, .ref a_leftArc, .ref a_died, .ref a_arcs, .int m_bestSum, .int m_nearest, .int m_nearestTown, .ref a_there, .ref a_backAt, .ref a_sorted, .ref a_parts, .int m_seed1, .int m_darkNow])), (a_tape, .inl (g.2.2.1, 900, .inl d_tape)), (a_letters, .inl (g.2.2.1, 8, .inl d_letters2_18))] [(a_fresh, .inl (g.2.2.1, 311, .inl d_fresh))] [0, 1, 2] [3] (m_must l g h0 sr_163 m_thrown a_tape m_taped m_size m_at2_14 m_end2_15 m_token2_21 m_whole2_22 m_nameSize2_19 m_fault2_17 m_place2_20 m_trouble a_letters m_failed2_16 m_hasHouse a_r a_fresh a_st a_undone a_kept m_undos m_images a_from a_begin a_motor a_change a_startFrame a_changeFrame a_lostAt a_blackAt a_slips a_leftArc a_died a_arcs m_bestSum m_nearest m_nearestTown a_there a_backAt a_sorted a_parts m_seed1 m_darkNow d_tape d_letters2_18 ("by") (iv_w hv_m_size (by decide) (by decide)) (iv_w iv_24 (by decide) (by decide)) (iv_w iv_26 (by decide) (by decide)) (iv_w iv_162 (by decide) (by decide)) hsr_163 hk_29) dX11_markLine_46 mw527 mw528 mw529 mw5 mw530 rfl 11 rfl rfl 0 _ rfl (by unfold yOk; decide) rfl (Nat.le_of_ble_eq_true rfl) (Nat.le_of_ble_eq_true rfl) (Nat.le_of_ble_eq_true rfl) (Nat.le_of_ble_eq_true rfl) (Nat.le_of_ble_eq_true rfl) rfl rfl (by decide) rfl (by decide) (by decide) ?_
      rintro w ⟨m_at2_164, m_end2_165, m_failed2_166, m_fault2_167, d_letters2_168, m_nameSize2_169, m_place2_170, m_token2_171, m_whole2_172, iv_174, iv_175, iv_176, hq_177, hk_178, rfl⟩
      refine k_ws [(a_fresh, .inl (g.2.2.1, 311, .inl d_fresh)), (h0, .inr (11, [.int m_thrown, .ref a_tape, .int m_taped, .int m_size, .int m_at2_164, .int m_end2_165, .int m_token2_171, .int m_whole2_172, .int m_nameSize2_169, .int m_fault2_167, .int m_place2_170, .int m_trouble, .ref a_letters, .int m_failed2_166, .int m_hasHouse, .ref a_r, .ref a_fresh, .ref a_st, .ref a_undone, .ref a_kept, .int m_undos, .int m_images, .ref a_from, .ref a_begin, .ref a_motor, .ref a_change, .ref a_startFrame, .ref a_changeFrame, .ref a_lostAt, .ref a_blackAt, .ref a_slips, .ref a_leftArc, .ref a_died, .ref a_arcs, .int m_bestSum, .int m_nearest, .int m_nearestTown, .ref a_there, .ref a_backAt, .ref a_sorted, .ref a_parts, .int m_seed1, .int m_darkNow])), (a_tape, .inl (g.2.2.1, 900, .inl d_tape)), (a_letters, .inl (g.2.2.1, 8, .inl d_letters2_168))] rfl ?_
      refine k_aload_n X dX11_markLine_49 3 rfl ?_
      refine k_bipush (v := 8) X dX11_markLine_50 (by decide) ?_
      refine k_bipush (v := 11) X dX11_markLine_52 (by decide) ?_
      refine k_callVI (n := 2) (As := [.int 8, .int 11]) (st := []) X [(h0, .inr (11, [.int m_thrown, .ref a_tape, .int m_taped, .int m_size, .int m_at2_164, .int m_end2_165, .int m_token2_171, .int m_whole2_172, .int m_nameSize2_169, .int m_fault2_167, .int m_place2_170, .int m_trouble, .ref a_letters, .int m_failed2_166, .int m_hasHouse, .ref a_r, .ref a_fresh, .ref a_st, .ref a_undone, .ref a_kept, .int m_undos, .int m_images, .ref a_from, .ref a_begin, .ref a_motor, .ref a_change, .ref a_startFrame, .ref a_changeFrame, .ref a_lostAt, .ref a_blackAt, .ref a_slips, .ref a_leftArc, .ref a_died, .ref a_arcs, .int m_bestSum, .int m_nearest, .int m_nearestTown, .ref a_there, .ref a_backAt, .ref a_sorted, .ref a_parts, .int m_seed1, .int m_darkNow])), (a_letters, .inl (g.2.2.1, 8, .inl d_letters2_168)), (a_fresh, .inl (g.2.2.1, 311, .inl d_fresh))] [(a_tape, .inl (g.2.2.1, 900, .inl d_tape))] [1, 3, 0] [2] (m_namedT l g h0 m_thrown a_tape m_taped m_size m_at2_164 m_end2_165 m_token2_171 m_whole2_172 m_nameSize2_169 m_fault2_167 m_place2_170 m_trouble a_letters m_failed2_166 m_hasHouse a_r a_fresh a_st a_undone a_kept m_undos m_images a_from a_begin a_motor a_change a_startFrame a_changeFrame a_lostAt a_blackAt a_slips a_leftArc a_died a_arcs m_bestSum m_nearest m_nearestTown a_there a_backAt a_sorted a_parts m_seed1 m_darkNow d_letters2_168 d_fresh (iv_w iv_176 (by decide) (by decide)) (iv_w iv_175 (by decide) (by decide)) hp_d_fresh hk_178) dX11_markLine_54 mw575 mw576 mw577 mw5 mw578 rfl 11 rfl rfl 0 _ rfl (by unfold yOk; decide) rfl (Nat.le_of_ble_eq_true rfl) (Nat.le_of_ble_eq_true rfl) (Nat.le_of_ble_eq_true rfl) (Nat.le_of_ble_eq_true rfl) (Nat.le_of_ble_eq_true rfl) rfl rfl (by decide) rfl (by decide) (by decide) ?_
      rintro r_182 w ⟨m_failed2_179, m_fault2_180, m_place2_181, iv_183, iv_184, rfl⟩
      refine k_ws [(a_tape, .inl (g.2.2.1, 900, .inl d_tape)), (h0, .inr (11, [.int m_thrown, .ref a_tape, .int m_taped, .int m_size, .int m_at2_164, .int m_end2_165, .int m_token2_171, .int m_whole2_172, .int m_nameSize2_169, .int m_fault2_180, .int m_place2_181, .int m_trouble, .ref a_letters, .int m_failed2_179, .int m_hasHouse, .ref a_r, .ref a_fresh, .ref a_st, .ref a_undone, .ref a_kept, .int m_undos, .int m_images, .ref a_from, .ref a_begin, .ref a_motor, .ref a_change, .ref a_startFrame, .ref a_changeFrame, .ref a_lostAt, .ref a_blackAt, .ref a_slips, .ref a_leftArc, .ref a_died, .ref a_arcs, .int m_bestSum, .int m_nearest, .int m_nearestTown, .ref a_there, .ref a_backAt, .ref a_sorted, .ref a_parts, .int m_seed1, .int m_darkNow])), (a_letters, .inl (g.2.2.1, 8, .inl d_letters2_168)), (a_fresh, .inl (g.2.2.1, 311, .inl d_fresh))] rfl ?_
      refine k_istore [(4, .int r_182), (3, .int 0), (2, .int r_23), (1, .int z_11), (0, .ref h0)] X dX11_markLine_57 (by decide) rfl ?_
      refine k_iconst (v := 0) X dX11_markLine_59 (by decide) ?_
      refine k_istore [(5, .int 0), (4, .int r_182), (3, .int 0), (2, .int r_23), (1, .int z_11), (0, .ref h0)] X dX11_markLine_60 (by decide) rfl ?_
      refine (fun hL : ∀ (nn_191 : Nat) (u_185 : Int32) (u_187 : Int32) (u_188 : Int32) (u_190 : Int32), (z_5.toInt - u_185.toInt).toNat = nn_191 → (IV u_185 0 255) → (IV u_188 0 1) → Wk p l e _ s m args below meth c _ A g _ _ _ [(a_tape, .inl (g.2.2.1, 900, .inl d_tape)), (h0, .inr (11, [.int m_thrown, .ref a_tape, .int m_taped, .int m_size, .int m_at2_164, .int m_end2_165, .int m_token2_171, .int m_whole2_172, .int m_nameSize2_169, .int u_190, .int u_187, .int m_trouble, .ref a_letters, .int u_188, .int m_hasHouse, .ref a_r, .ref a_fresh, .ref a_st, .ref a_undone, .ref a_kept, .int m_undos, .int m_images, .ref a_from, .ref a_begin, .ref a_motor, .ref a_change, .ref a_startFrame, .ref a_changeFrame, .ref a_lostAt, .ref a_blackAt, .ref a_slips, .ref a_leftArc, .ref a_died, .ref a_arcs, .int m_bestSum, .int m_nearest, .int m_nearestTown, .ref a_there, .ref a_backAt, .ref a_sorted, .ref a_parts, .int m_seed1, .int m_darkNow])), (a_letters, .inl (g.2.2.1, 8, .inl d_letters2_168)), (a_fresh, .inl (g.2.2.1, 311, .inl d_fresh))] [(5, .int u_185), (4, .int r_182), (3, .int 0), (2, .int r_23), (1, .int z_11), (0, .ref h0)] 62 [] => hL _ 0 m_place2_181 m_failed2_179 m_fault2_180 rfl (iv_w (show IV 0 0 0 from (by decide)) (by decide) (by decide)) (iv_w iv_183 (by decide) (by decide))) ?_
      refine fun nn_191 => Nat.strongRecOn nn_191 (fun nn_191 ih_193 => ?_)
      intro u_185 u_187 u_188 u_190 hm_192 hv_186 hv_189
      refine k_iload X dX11_markLine_62 0 rfl ?_
      refine k_aload_n X dX11_markLine_64 5 rfl ?_
      refine k_get (ci := 11) X inlX11 rfl 16 (by decide) dX11_markLine_65 mw171 1 rfl rfl ?_
      refine k_bipush (v := 8) X dX11_markLine_68 (by decide) ?_
      refine k_iald X dX11_markLine_70 3 rfl (by unfold vp_in; decide) ?_
      refine k_to z_5 ez_5.symm ?_
      refine k_ic_ge 131 X dX11_markLine_71 (by decide) (fun h_194 => ?_) (fun h_194 => ?_)
      · skip
        have j_195 : z_5.toInt ≤ u_185.toInt := iv_le h_194
        refine k_aload_n X dX11_markLine_131 5 rfl ?_
        refine k_get (ci := 11) X inlX11 rfl 13 (by decide) dX11_markLine_132 mw469 1 rfl rfl ?_
        refine k_if_eq 139 X dX11_markLine_135 (by decide) (fun h_196 => ?_) (fun h_196 => ?_)
        · skip
          have iv_197 : IV u_188 0 0 := iv_meet hv_189 (iv_e h_196 (show IV 0 0 0 from (by decide))) (by decide) (by decide)
          refine k_aload_n X dX11_markLine_139 5 rfl ?_
          refine k_callVV (n := 0) (As := []) (st := []) X [(h0, .inr (11, [.int m_thrown, .ref a_tape, .int m_taped, .int m_size, .int m_at2_164, .int m_end2_165, .int m_token2_171, .int m_whole2_172, .int m_nameSize2_169, .int u_190, .int u_187, .int m_trouble, .ref a_letters, .int u_188, .int m_hasHouse, .ref a_r, .ref a_fresh, .ref a_st, .ref a_undone, .ref a_kept, .int m_undos, .int m_images, .ref a_from, .ref a_begin, .ref a_motor, .ref a_change, .ref a_startFrame, .ref a_changeFrame, .ref a_lostAt, .ref a_blackAt, .ref a_slips, .ref a_leftArc, .ref a_died, .ref a_arcs, .int m_bestSum, .int m_nearest, .int m_nearestTown, .ref a_there, .ref a_backAt, .ref a_sorted, .ref a_parts, .int m_seed1, .int m_darkNow])), (a_tape, .inl (g.2.2.1, 900, .inl d_tape)), (a_letters, .inl (g.2.2.1, 8, .inl d_letters2_168))] [(a_fresh, .inl (g.2.2.1, 311, .inl d_fresh))] [1, 0, 2] [3] (m_next l g h0 m_thrown a_tape m_taped m_size m_at2_164 m_end2_165 m_token2_171 m_whole2_172 m_nameSize2_169 u_190 u_187 m_trouble a_letters u_188 m_hasHouse a_r a_fresh a_st a_undone a_kept m_undos m_images a_from a_begin a_motor a_change a_startFrame a_changeFrame a_lostAt a_blackAt a_slips a_leftArc a_died a_arcs m_bestSum m_nearest m_nearestTown a_there a_backAt a_sorted a_parts m_seed1 m_darkNow d_tape d_letters2_168 (iv_w hv_m_size (by decide) (by decide)) (iv_w iv_174 (by decide) (by decide)) (iv_w iv_176 (by decide) (by decide))) dX11_markLine_140 mw489 mw490 mw491 mw5 mw492 rfl 11 rfl rfl 0 _ rfl (by unfold yOk; decide) rfl (Nat.le_of_ble_eq_true rfl) (Nat.le_of_ble_eq_true rfl) (Nat.le_of_ble_eq_true rfl) (Nat.le_of_ble_eq_true rfl) (Nat.le_of_ble_eq_true rfl) rfl rfl (by decide) rfl (by decide) (by decide) ?_
          rintro w ⟨m_at2_198, m_end2_199, d_letters2_200, m_nameSize2_201, m_token2_202, m_whole2_203, iv_205, iv_206, hq_207, hq_208, hk_209, rfl⟩
          refine k_ws [(a_fresh, .inl (g.2.2.1, 311, .inl d_fresh)), (h0, .inr (11, [.int m_thrown, .ref a_tape, .int m_taped, .int m_size, .int m_at2_198, .int m_end2_199, .int m_token2_202, .int m_whole2_203, .int m_nameSize2_201, .int u_190, .int u_187, .int m_trouble, .ref a_letters, .int u_188, .int m_hasHouse, .ref a_r, .ref a_fresh, .ref a_st, .ref a_undone, .ref a_kept, .int m_undos, .int m_images, .ref a_from, .ref a_begin, .ref a_motor, .ref a_change, .ref a_startFrame, .ref a_changeFrame, .ref a_lostAt, .ref a_blackAt, .ref a_slips, .ref a_leftArc, .ref a_died, .ref a_arcs, .int m_bestSum, .int m_nearest, .int m_nearestTown, .ref a_there, .ref a_backAt, .ref a_sorted, .ref a_parts, .int m_seed1, .int m_darkNow])), (a_tape, .inl (g.2.2.1, 900, .inl d_tape)), (a_letters, .inl (g.2.2.1, 8, .inl d_letters2_200))] rfl ?_
          refine k_aload_n X dX11_markLine_143 5 rfl ?_
          refine k_get (ci := 11) X inlX11 rfl 16 (by decide) dX11_markLine_144 mw171 1 rfl rfl ?_
          refine k_iload_n X dX11_markLine_147 4 rfl ?_
          refine k_iload_n X dX11_markLine_148 3 rfl ?_
          refine k_iast [(a_fresh, .inl (g.2.2.1, 311, .inl (upd d_fresh (z_11 : Int32).toNatClampNeg r_23))), (h0, .inr (11, [.int m_thrown, .ref a_tape, .int m_taped, .int m_size, .int m_at2_198, .int m_end2_199, .int m_token2_202, .int m_whole2_203, .int m_nameSize2_201, .int u_190, .int u_187, .int m_trouble, .ref a_letters, .int u_188, .int m_hasHouse, .ref a_r, .ref a_fresh, .ref a_st, .ref a_undone, .ref a_kept, .int m_undos, .int m_images, .ref a_from, .ref a_begin, .ref a_motor, .ref a_change, .ref a_startFrame, .ref a_changeFrame, .ref a_lostAt, .ref a_blackAt, .ref a_slips, .ref a_leftArc, .ref a_died, .ref a_arcs, .int m_bestSum, .int m_nearest, .int m_nearestTown, .ref a_there, .ref a_backAt, .ref a_sorted, .ref a_parts, .int m_seed1, .int m_darkNow])), (a_tape, .inl (g.2.2.1, 900, .inl d_tape)), (a_letters, .inl (g.2.2.1, 8, .inl d_letters2_200))] X dX11_markLine_149 0 rfl (iv_in iv_13 (by decide) (by decide)) rfl ?_
          have i_212 : z_11.toInt = 44 + 3 * z_5.toInt := by omega
          refine (fun hg : ∀ fa_210 : Nat → Int32, RInv fa_210 → K16 d_fresh fa_210 → Wk p l e _ s m args below meth c _ A g _ _ _ [(a_fresh, .inl (g.2.2.1, 311, .inl fa_210)), (h0, .inr (11, [.int m_thrown, .ref a_tape, .int m_taped, .int m_size, .int m_at2_198, .int m_end2_199, .int m_token2_202, .int m_whole2_203, .int m_nameSize2_201, .int u_190, .int u_187, .int m_trouble, .ref a_letters, .int u_188, .int m_hasHouse, .ref a_r, .ref a_fresh, .ref a_st, .ref a_undone, .ref a_kept, .int m_undos, .int m_images, .ref a_from, .ref a_begin, .ref a_motor, .ref a_change, .ref a_startFrame, .ref a_changeFrame, .ref a_lostAt, .ref a_blackAt, .ref a_slips, .ref a_leftArc, .ref a_died, .ref a_arcs, .int m_bestSum, .int m_nearest, .int m_nearestTown, .ref a_there, .ref a_backAt, .ref a_sorted, .ref a_parts, .int m_seed1, .int m_darkNow])), (a_tape, .inl (g.2.2.1, 900, .inl d_tape)), (a_letters, .inl (g.2.2.1, 8, .inl d_letters2_200))] _ _ _ => hg _ (w_rb_44_3 hp_d_fresh i_212 (iv_w iv_7 (by decide) (by decide)) (iv_w iv_27 (by decide) (by decide))) (k16_u (by have := iv_13; omega))) (fun fa_210 hR_211 hk_213 => ?_)
          have ek_214 : z_5 = fa_210 (8 : Int32).toNatClampNeg := ez_5.trans (hk_213 _ (by decide)).symm
          refine k_aload_n X dX11_markLine_150 5 rfl ?_
          refine k_get (ci := 11) X inlX11 rfl 16 (by decide) dX11_markLine_151 mw171 1 rfl rfl ?_
          refine k_iload_n X dX11_markLine_154 4 rfl ?_
          refine k_iconst (v := 1) X dX11_markLine_155 (by decide) ?_
          refine k_iadd X dX11_markLine_156 ?_
          refine k_nm (fun z_215 ez_215 => ?_)
          have i_216 : z_215.toInt = z_11.toInt + 1 := in_add ez_215 iv_13 (show IV 1 1 1 from (by decide)) (by decide) (by decide)
          have iv_217 : IV z_215 45 78 := by have := iv_13; have := (show IV 1 1 1 from (by decide)); rw [IV, i_216]; omega
          refine k_iload_n X dX11_markLine_157 2 rfl ?_
          refine k_iast [(a_fresh, .inl (g.2.2.1, 311, .inl (upd fa_210 (z_215 : Int32).toNatClampNeg 0))), (h0, .inr (11, [.int m_thrown, .ref a_tape, .int m_taped, .int m_size, .int m_at2_198, .int m_end2_199, .int m_token2_202, .int m_whole2_203, .int m_nameSize2_201, .int u_190, .int u_187, .int m_trouble, .ref a_letters, .int u_188, .int m_hasHouse, .ref a_r, .ref a_fresh, .ref a_st, .ref a_undone, .ref a_kept, .int m_undos, .int m_images, .ref a_from, .ref a_begin, .ref a_motor, .ref a_change, .ref a_startFrame, .ref a_changeFrame, .ref a_lostAt, .ref a_blackAt, .ref a_slips, .ref a_leftArc, .ref a_died, .ref a_arcs, .int m_bestSum, .int m_nearest, .int m_nearestTown, .ref a_there, .ref a_backAt, .ref a_sorted, .ref a_parts, .int m_seed1, .int m_darkNow])), (a_tape, .inl (g.2.2.1, 900, .inl d_tape)), (a_letters, .inl (g.2.2.1, 8, .inl d_letters2_200))] X dX11_markLine_158 0 rfl (iv_in iv_217 (by decide) (by decide)) rfl ?_
          refine (fun hg : ∀ fa_218 : Nat → Int32, RInv fa_218 → K16 fa_210 fa_218 → Wk p l e _ s m args below meth c _ A g _ _ _ [(a_fresh, .inl (g.2.2.1, 311, .inl fa_218)), (h0, .inr (11, [.int m_thrown, .ref a_tape, .int m_taped, .int m_size, .int m_at2_198, .int m_end2_199, .int m_token2_202, .int m_whole2_203, .int m_nameSize2_201, .int u_190, .int u_187, .int m_trouble, .ref a_letters, .int u_188, .int m_hasHouse, .ref a_r, .ref a_fresh, .ref a_st, .ref a_undone, .ref a_kept, .int m_undos, .int m_images, .ref a_from, .ref a_begin, .ref a_motor, .ref a_change, .ref a_startFrame, .ref a_changeFrame, .ref a_lostAt, .ref a_blackAt, .ref a_slips, .ref a_leftArc, .ref a_died, .ref a_arcs, .int m_bestSum, .int m_nearest, .int m_nearestTown, .ref a_there, .ref a_backAt, .ref a_sorted, .ref a_parts, .int m_seed1, .int m_darkNow])), (a_tape, .inl (g.2.2.1, 900, .inl d_tape)), (a_letters, .inl (g.2.2.1, 8, .inl d_letters2_200))] _ _ _ => hg _ (w_zero hR_211) (k16_u (by have := iv_217; omega))) (fun fa_218 hR_219 hk_220 => ?_)
          have ek_221 : z_5 = fa_218 (8 : Int32).toNatClampNeg := ek_214.trans (hk_220 _ (by decide)).symm
          refine k_aload_n X dX11_markLine_159 5 rfl ?_
          refine k_get (ci := 11) X inlX11 rfl 16 (by decide) dX11_markLine_160 mw171 1 rfl rfl ?_
          refine k_iload_n X dX11_markLine_163 4 rfl ?_
          refine k_iconst (v := 2) X dX11_markLine_164 (by decide) ?_
          refine k_iadd X dX11_markLine_165 ?_
          refine k_nm (fun z_222 ez_222 => ?_)
          have i_223 : z_222.toInt = z_11.toInt + 2 := in_add ez_222 iv_13 (show IV 2 2 2 from (by decide)) (by decide) (by decide)
          have iv_224 : IV z_222 46 79 := by have := iv_13; have := (show IV 2 2 2 from (by decide)); rw [IV, i_223]; omega
          refine k_iload X dX11_markLine_166 1 rfl ?_
          refine k_iast [(a_fresh, .inl (g.2.2.1, 311, .inl (upd fa_218 (z_222 : Int32).toNatClampNeg r_182))), (h0, .inr (11, [.int m_thrown, .ref a_tape, .int m_taped, .int m_size, .int m_at2_198, .int m_end2_199, .int m_token2_202, .int m_whole2_203, .int m_nameSize2_201, .int u_190, .int u_187, .int m_trouble, .ref a_letters, .int u_188, .int m_hasHouse, .ref a_r, .ref a_fresh, .ref a_st, .ref a_undone, .ref a_kept, .int m_undos, .int m_images, .ref a_from, .ref a_begin, .ref a_motor, .ref a_change, .ref a_startFrame, .ref a_changeFrame, .ref a_lostAt, .ref a_blackAt, .ref a_slips, .ref a_leftArc, .ref a_died, .ref a_arcs, .int m_bestSum, .int m_nearest, .int m_nearestTown, .ref a_there, .ref a_backAt, .ref a_sorted, .ref a_parts, .int m_seed1, .int m_darkNow])), (a_tape, .inl (g.2.2.1, 900, .inl d_tape)), (a_letters, .inl (g.2.2.1, 8, .inl d_letters2_200))] X dX11_markLine_168 0 rfl (iv_in iv_224 (by decide) (by decide)) rfl ?_
          have i_227 : z_222.toInt = 46 + 3 * z_5.toInt := by omega
          refine (fun hg : ∀ fa_225 : Nat → Int32, RInv fa_225 → K16 fa_218 fa_225 → Wk p l e _ s m args below meth c _ A g _ _ _ [(a_fresh, .inl (g.2.2.1, 311, .inl fa_225)), (h0, .inr (11, [.int m_thrown, .ref a_tape, .int m_taped, .int m_size, .int m_at2_198, .int m_end2_199, .int m_token2_202, .int m_whole2_203, .int m_nameSize2_201, .int u_190, .int u_187, .int m_trouble, .ref a_letters, .int u_188, .int m_hasHouse, .ref a_r, .ref a_fresh, .ref a_st, .ref a_undone, .ref a_kept, .int m_undos, .int m_images, .ref a_from, .ref a_begin, .ref a_motor, .ref a_change, .ref a_startFrame, .ref a_changeFrame, .ref a_lostAt, .ref a_blackAt, .ref a_slips, .ref a_leftArc, .ref a_died, .ref a_arcs, .int m_bestSum, .int m_nearest, .int m_nearestTown, .ref a_there, .ref a_backAt, .ref a_sorted, .ref a_parts, .int m_seed1, .int m_darkNow])), (a_tape, .inl (g.2.2.1, 900, .inl d_tape)), (a_letters, .inl (g.2.2.1, 8, .inl d_letters2_200))] _ _ _ => hg _ (w_rb_46_3 hR_219 i_227 (iv_w iv_7 (by decide) (by decide)) (iv_w iv_184 (by decide) (by decide))) (k16_u (by have := iv_224; omega))) (fun fa_225 hR_226 hk_228 => ?_)
          have ek_229 : z_5 = fa_225 (8 : Int32).toNatClampNeg := ek_221.trans (hk_228 _ (by decide)).symm
          refine k_aload_n X dX11_markLine_169 5 rfl ?_
          refine k_get (ci := 11) X inlX11 rfl 16 (by decide) dX11_markLine_170 mw171 1 rfl rfl ?_
          refine k_bipush (v := 8) X dX11_markLine_173 (by decide) ?_
          refine k_dup2 X dX11_markLine_175 rfl rfl ?_
          refine k_iald X dX11_markLine_176 0 rfl (by unfold vp_in; decide) ?_
          refine k_to z_5 ek_229.symm ?_
          refine k_iconst (v := 1) X dX11_markLine_177 (by decide) ?_
          refine k_iadd X dX11_markLine_178 ?_
          refine k_nm (fun z_230 ez_230 => ?_)
          have i_231 : z_230.toInt = z_5.toInt + 1 := in_add ez_230 iv_7 (show IV 1 1 1 from (by decide)) (by decide) (by decide)
          have iv_232 : IV z_230 1 12 := by have := iv_7; have := (show IV 1 1 1 from (by decide)); rw [IV, i_231]; omega
          refine k_iast [(a_fresh, .inl (g.2.2.1, 311, .inl (upd fa_225 (8 : Int32).toNatClampNeg z_230))), (h0, .inr (11, [.int m_thrown, .ref a_tape, .int m_taped, .int m_size, .int m_at2_198, .int m_end2_199, .int m_token2_202, .int m_whole2_203, .int m_nameSize2_201, .int u_190, .int u_187, .int m_trouble, .ref a_letters, .int u_188, .int m_hasHouse, .ref a_r, .ref a_fresh, .ref a_st, .ref a_undone, .ref a_kept, .int m_undos, .int m_images, .ref a_from, .ref a_begin, .ref a_motor, .ref a_change, .ref a_startFrame, .ref a_changeFrame, .ref a_lostAt, .ref a_blackAt, .ref a_slips, .ref a_leftArc, .ref a_died, .ref a_arcs, .int m_bestSum, .int m_nearest, .int m_nearestTown, .ref a_there, .ref a_backAt, .ref a_sorted, .ref a_parts, .int m_seed1, .int m_darkNow])), (a_tape, .inl (g.2.2.1, 900, .inl d_tape)), (a_letters, .inl (g.2.2.1, 8, .inl d_letters2_200))] X dX11_markLine_179 0 rfl (by unfold vp_in; decide) rfl ?_
          refine (fun hg : ∀ fa_233 : Nat → Int32, RInv fa_233 → Wk p l e _ s m args below meth c _ A g _ _ _ [(a_fresh, .inl (g.2.2.1, 311, .inl fa_233)), (h0, .inr (11, [.int m_thrown, .ref a_tape, .int m_taped, .int m_size, .int m_at2_198, .int m_end2_199, .int m_token2_202, .int m_whole2_203, .int m_nameSize2_201, .int u_190, .int u_187, .int m_trouble, .ref a_letters, .int u_188, .int m_hasHouse, .ref a_r, .ref a_fresh, .ref a_st, .ref a_undone, .ref a_kept, .int m_undos, .int m_images, .ref a_from, .ref a_begin, .ref a_motor, .ref a_change, .ref a_startFrame, .ref a_changeFrame, .ref a_lostAt, .ref a_blackAt, .ref a_slips, .ref a_leftArc, .ref a_died, .ref a_arcs, .int m_bestSum, .int m_nearest, .int m_nearestTown, .ref a_there, .ref a_backAt, .ref a_sorted, .ref a_parts, .int m_seed1, .int m_darkNow])), (a_tape, .inl (g.2.2.1, 900, .inl d_tape)), (a_letters, .inl (g.2.2.1, 8, .inl d_letters2_200))] _ _ _ => hg _ (w_rb_8 hR_226 (iv_w iv_232 (by decide) (by decide)))) (fun fa_233 hR_234 => ?_)
          exact k_vret X hr dX11_markLine_180 (Nat.le_of_ble_eq_true rfl) (Nat.le_of_ble_eq_true rfl) [1, 2, 3, 0] (by decide) rfl rfl ⟨m_at2_198, m_end2_199, u_188, u_190, fa_233, d_letters2_200, m_nameSize2_201, u_187, m_token2_202, m_whole2_203, (iv_w iv_205 (by decide) (by decide)), (iv_w iv_197 (by decide) (by decide)), (iv_w iv_206 (by decide) (by decide)), hR_234, (by omega), hk_209, rfl⟩
        · skip
          have iv_236 : IV u_188 1 1 := iv_neL h_196 hv_189 (show IV 0 0 0 from (by decide)) (by decide)
          exact k_vret X hr dX11_markLine_138 (Nat.le_of_ble_eq_true rfl) (Nat.le_of_ble_eq_true rfl) [1, 0, 2, 3] (by decide) rfl rfl ⟨m_at2_164, m_end2_165, u_188, u_190, d_fresh, d_letters2_168, m_nameSize2_169, u_187, m_token2_171, m_whole2_172, (iv_w iv_174 (by decide) (by decide)), (iv_w iv_236 (by decide) (by decide)), (iv_w iv_176 (by decide) (by decide)), hp_d_fresh, (by omega), hk_178, rfl⟩
      · skip
        have j_237 : u_185.toInt < z_5.toInt := iv_nle h_194
        have iv_238 : IV u_185 0 10 := iv_ltL (iv_nle h_194) hv_186 iv_7 (by decide)
        have iv_239 : IV z_5 1 11 := iv_ltR (iv_nle h_194) hv_186 iv_7 (by decide)
        refine k_aload_n X dX11_markLine_74 5 rfl ?_
        refine k_get (ci := 11) X inlX11 rfl 13 (by decide) dX11_markLine_75 mw469 1 rfl rfl ?_
        refine k_if_ne 125 X dX11_markLine_78 (by decide) (fun h_240 => ?_) (fun h_240 => ?_)
        · skip
          have iv_241 : IV u_188 1 1 := iv_neL h_240 hv_189 (show IV 0 0 0 from (by decide)) (by decide)
          obtain ⟨z_242, ez_242⟩ : ∃ y : Int32, u_185 + Int32.ofInt 1 = y := ⟨_, rfl⟩
          refine k_iinc z_242 [(5, .int z_242), (4, .int r_182), (3, .int 0), (2, .int r_23), (1, .int z_11), (0, .ref h0)] 0 X dX11_markLine_125 rfl ez_242 (by decide) rfl ?_
          have i_243 : z_242.toInt = u_185.toInt + 1 := in_inc ez_242 (by decide) iv_238 (by decide) (by decide)
          have iv_244 : IV z_242 1 11 := by have := iv_238; rw [IV, i_243]; omega
          refine k_goto 62 X dX11_markLine_128 (by decide) ?_
          exact ih_193 _ (by omega) z_242 u_187 u_188 u_190 rfl (iv_w iv_244 (by decide) (by decide)) (iv_w iv_241 (by decide) (by decide))
        · skip
          have iv_245 : IV u_188 0 0 := iv_meet hv_189 (iv_e h_240 (show IV 0 0 0 from (by decide))) (by decide) (by decide)
          refine k_aload_n X dX11_markLine_81 5 rfl ?_
          refine k_get (ci := 11) X inlX11 rfl 16 (by decide) dX11_markLine_82 mw171 1 rfl rfl ?_
          refine k_bipush (v := 44) X dX11_markLine_85 (by decide) ?_
          refine k_iconst (v := 3) X dX11_markLine_87 (by decide) ?_
          refine k_iload X dX11_markLine_88 0 rfl ?_
          refine k_imul X dX11_markLine_90 ?_
          refine k_nm (fun z_246 ez_246 => ?_)
          have i_247 : z_246.toInt = 3 * u_185.toInt := in_mul ez_246 (by decide) (by decide) iv_238 (by decide) (by decide)
          have iv_248 : IV z_246 0 30 := by have := (show IV 3 3 3 from (by decide)); have := iv_238; rw [IV, i_247]; omega
          refine k_iadd X dX11_markLine_91 ?_
          refine k_nm (fun z_249 ez_249 => ?_)
          have i_250 : z_249.toInt = 44 + z_246.toInt := in_add ez_249 (show IV 44 44 44 from (by decide)) iv_248 (by decide) (by decide)
          have iv_251 : IV z_249 44 74 := by have := (show IV 44 44 44 from (by decide)); have := iv_248; rw [IV, i_250]; omega
          refine k_iald X dX11_markLine_92 3 rfl (iv_in iv_251 (by decide) (by decide)) ?_
          refine k_nm (fun z_252 ez_252 => ?_)
          have i_253 : z_249.toInt = 44 + 3 * u_185.toInt := by omega
          have iv_254 : IV z_252 0 7 := rb_44_3 ez_252 hp_d_fresh i_253 (iv_w iv_238 (by decide) (by decide))
          refine k_iload_n X dX11_markLine_93 3 rfl ?_
          refine k_ic_ne 125 X dX11_markLine_94 (by decide) (fun h_255 => ?_) (fun h_255 => ?_)
          · skip
            obtain ⟨z_256, ez_256⟩ : ∃ y : Int32, u_185 + Int32.ofInt 1 = y := ⟨_, rfl⟩
            refine k_iinc z_256 [(5, .int z_256), (4, .int r_182), (3, .int 0), (2, .int r_23), (1, .int z_11), (0, .ref h0)] 0 X dX11_markLine_125 rfl ez_256 (by decide) rfl ?_
            have i_257 : z_256.toInt = u_185.toInt + 1 := in_inc ez_256 (by decide) iv_238 (by decide) (by decide)
            have iv_258 : IV z_256 1 11 := by have := iv_238; rw [IV, i_257]; omega
            refine k_goto 62 X dX11_markLine_128 (by decide) ?_
            exact ih_193 _ (by omega) z_256 u_187 u_188 u_190 rfl (iv_w iv_258 (by decide) (by decide)) (iv_w iv_245 (by decide) (by decide))
          · skip
            refine k_aload_n X dX11_markLine_97 5 rfl ?_
            refine k_get (ci := 11) X inlX11 rfl 16 (by decide) dX11_markLine_98 mw171 1 rfl rfl ?_
            refine k_bipush (v := 44) X dX11_markLine_101 (by decide) ?_
            refine k_iconst (v := 3) X dX11_markLine_103 (by decide) ?_
            refine k_iload X dX11_markLine_104 0 rfl ?_
            refine k_imul X dX11_markLine_106 ?_
            refine k_to z_246 ez_246.symm ?_
            refine k_iadd X dX11_markLine_107 ?_
            refine k_to z_249 ez_249.symm ?_
            refine k_iconst (v := 2) X dX11_markLine_108 (by decide) ?_
            refine k_iadd X dX11_markLine_109 ?_
            refine k_nm (fun z_259 ez_259 => ?_)
            have i_260 : z_259.toInt = z_249.toInt + 2 := in_add ez_259 iv_251 (show IV 2 2 2 from (by decide)) (by decide) (by decide)
            have iv_261 : IV z_259 46 76 := by have := iv_251; have := (show IV 2 2 2 from (by decide)); rw [IV, i_260]; omega
            refine k_iald X dX11_markLine_110 3 rfl (iv_in iv_261 (by decide) (by decide)) ?_
            refine k_nm (fun z_262 ez_262 => ?_)
            have i_263 : z_259.toInt = 46 + 3 * u_185.toInt := by omega
            have iv_264 : IV z_262 0 3 := rb_46_3 ez_262 hp_d_fresh i_263 (iv_w iv_238 (by decide) (by decide))
            refine k_iload X dX11_markLine_111 1 rfl ?_
            refine k_ic_ne 125 X dX11_markLine_113 (by decide) (fun h_265 => ?_) (fun h_265 => ?_)
            · skip
              obtain ⟨z_266, ez_266⟩ : ∃ y : Int32, u_185 + Int32.ofInt 1 = y := ⟨_, rfl⟩
              refine k_iinc z_266 [(5, .int z_266), (4, .int r_182), (3, .int 0), (2, .int r_23), (1, .int z_11), (0, .ref h0)] 0 X dX11_markLine_125 rfl ez_266 (by decide) rfl ?_
              have i_267 : z_266.toInt = u_185.toInt + 1 := in_inc ez_266 (by decide) iv_238 (by decide) (by decide)
              have iv_268 : IV z_266 1 11 := by have := iv_238; rw [IV, i_267]; omega
              refine k_goto 62 X dX11_markLine_128 (by decide) ?_
              exact ih_193 _ (by omega) z_266 u_187 u_188 u_190 rfl (iv_w iv_268 (by decide) (by decide)) (iv_w iv_245 (by decide) (by decide))
            · skip
              refine k_aload_n X dX11_markLine_116 5 rfl ?_
              refine k_iconst (v := 3) X dX11_markLine_117 (by decide) ?_
              refine k_aload_n X dX11_markLine_118 5 rfl ?_
              refine k_get (ci := 11) X inlX11 rfl 4 (by decide) dX11_markLine_119 mw473 1 rfl rfl ?_
              refine k_callVV (n := 2) (As := [.int 3, .int m_at2_164]) (st := []) X [(h0, .inr (11, [.int m_thrown, .ref a_tape, .int m_taped, .int m_size, .int m_at2_164, .int m_end2_165, .int m_token2_171, .int m_whole2_172, .int m_nameSize2_169, .int u_190, .int u_187, .int m_trouble, .ref a_letters, .int u_188, .int m_hasHouse, .ref a_r, .ref a_fresh, .ref a_st, .ref a_undone, .ref a_kept, .int m_undos, .int m_images, .ref a_from, .ref a_begin, .ref a_motor, .ref a_change, .ref a_startFrame, .ref a_changeFrame, .ref a_lostAt, .ref a_blackAt, .ref a_slips, .ref a_leftArc, .ref a_died, .ref a_arcs, .int m_bestSum, .int m_nearest, .int m_nearestTown, .ref a_there, .ref a_backAt, .ref a_sorted, .ref a_parts, .int m_seed1, .int m_darkNow]))] [(a_tape, .inl (g.2.2.1, 900, .inl d_tape)), (a_letters, .inl (g.2.2.1, 8, .inl d_letters2_168)), (a_fresh, .inl (g.2.2.1, 311, .inl d_fresh))] [1] [0, 2, 3] (m_bad l g h0 3 m_at2_164 m_thrown a_tape m_taped m_size m_at2_164 m_end2_165 m_token2_171 m_whole2_172 m_nameSize2_169 u_190 u_187 m_trouble a_letters u_188 m_hasHouse a_r a_fresh a_st a_undone a_kept m_undos m_images a_from a_begin a_motor a_change a_startFrame a_changeFrame a_lostAt a_blackAt a_slips a_leftArc a_died a_arcs m_bestSum m_nearest m_nearestTown a_there a_backAt a_sorted a_parts m_seed1 m_darkNow (iv_w iv_245 (by decide) (by decide))) dX11_markLine_122 mw519 mw520 mw521 mw5 mw522 rfl 11 rfl rfl 0 _ rfl (by unfold yOk; decide) rfl (Nat.le_of_ble_eq_true rfl) (Nat.le_of_ble_eq_true rfl) (Nat.le_of_ble_eq_true rfl) (Nat.le_of_ble_eq_true rfl) (Nat.le_of_ble_eq_true rfl) rfl rfl (by decide) rfl (by decide) (by decide) ?_
              rintro w ⟨m_failed2_269, m_fault2_270, m_place2_271, iv_273, rfl⟩
              refine k_ws [(a_tape, .inl (g.2.2.1, 900, .inl d_tape)), (a_letters, .inl (g.2.2.1, 8, .inl d_letters2_168)), (a_fresh, .inl (g.2.2.1, 311, .inl d_fresh)), (h0, .inr (11, [.int m_thrown, .ref a_tape, .int m_taped, .int m_size, .int m_at2_164, .int m_end2_165, .int m_token2_171, .int m_whole2_172, .int m_nameSize2_169, .int m_fault2_270, .int m_place2_271, .int m_trouble, .ref a_letters, .int m_failed2_269, .int m_hasHouse, .ref a_r, .ref a_fresh, .ref a_st, .ref a_undone, .ref a_kept, .int m_undos, .int m_images, .ref a_from, .ref a_begin, .ref a_motor, .ref a_change, .ref a_startFrame, .ref a_changeFrame, .ref a_lostAt, .ref a_blackAt, .ref a_slips, .ref a_leftArc, .ref a_died, .ref a_arcs, .int m_bestSum, .int m_nearest, .int m_nearestTown, .ref a_there, .ref a_backAt, .ref a_sorted, .ref a_parts, .int m_seed1, .int m_darkNow]))] rfl ?_
              obtain ⟨z_274, ez_274⟩ : ∃ y : Int32, u_185 + Int32.ofInt 1 = y := ⟨_, rfl⟩
              refine k_iinc z_274 [(5, .int z_274), (4, .int r_182), (3, .int 0), (2, .int r_23), (1, .int z_11), (0, .ref h0)] 0 X dX11_markLine_125 rfl ez_274 (by decide) rfl ?_
              have i_275 : z_274.toInt = u_185.toInt + 1 := in_inc ez_274 (by decide) iv_238 (by decide) (by decide)
              have iv_276 : IV z_274 1 11 := by have := iv_238; rw [IV, i_275]; omega
              refine k_goto 62 X dX11_markLine_128 (by decide) ?_
              refine k_sub [(a_tape, .inl (g.2.2.1, 900, .inl d_tape)), (h0, .inr (11, [.int m_thrown, .ref a_tape, .int m_taped, .int m_size, .int m_at2_164, .int m_end2_165, .int m_token2_171, .int m_whole2_172, .int m_nameSize2_169, .int m_fault2_270, .int m_place2_271, .int m_trouble, .ref a_letters, .int m_failed2_269, .int m_hasHouse, .ref a_r, .ref a_fresh, .ref a_st, .ref a_undone, .ref a_kept, .int m_undos, .int m_images, .ref a_from, .ref a_begin, .ref a_motor, .ref a_change, .ref a_startFrame, .ref a_changeFrame, .ref a_lostAt, .ref a_blackAt, .ref a_slips, .ref a_leftArc, .ref a_died, .ref a_arcs, .int m_bestSum, .int m_nearest, .int m_nearestTown, .ref a_there, .ref a_backAt, .ref a_sorted, .ref a_parts, .int m_seed1, .int m_darkNow])), (a_letters, .inl (g.2.2.1, 8, .inl d_letters2_168)), (a_fresh, .inl (g.2.2.1, 311, .inl d_fresh))] [0, 3, 1, 2] rfl (by decide) rfl ?_
              exact ih_193 _ (by omega) z_274 m_place2_271 m_failed2_269 m_fault2_270 rfl (iv_w iv_276 (by decide) (by decide)) (iv_w iv_273 (by decide) (by decide))
  · skip
    have iv_277 : IV m_failed 1 1 := iv_neL h_1 hv_m_failed (show IV 0 0 0 from (by decide)) (by decide)
    exact k_vret X hr dX11_markLine_7 (Nat.le_of_ble_eq_true rfl) (Nat.le_of_ble_eq_true rfl) [0, 1, 2, 3] (by decide) rfl rfl ⟨m_at, m_end, m_failed, m_fault, d_fresh, d_letters, m_nameSize, m_place, m_token, m_whole, (iv_w hv_m_end (by decide) (by decide)), (iv_w iv_277 (by decide) (by decide)), (iv_w hv_m_nameSize (by decide) (by decide)), hp_d_fresh, (by omega), hc_1, rfl⟩

theorem dX11_joinLine_0 : decode cX11_joinLine 0 = .ok (.aload_n 0, 1) := by decide +kernel
theorem dX11_joinLine_1 : decode cX11_joinLine 1 = .ok (.getfield 121, 3) := by decide +kernel
theorem dX11_joinLine_4 : decode cX11_joinLine 4 = .ok (.ifCond .eq 4, 3) := by decide +kernel
theorem dX11_joinLine_7 : decode cX11_joinLine 7 = .ok (.return_, 1) := by decide +kernel
theorem dX11_joinLine_8 : decode cX11_joinLine 8 = .ok (.bipush 80, 2) := by decide +kernel
theorem dX11_joinLine_10 : decode cX11_joinLine 10 = .ok (.iconst 2, 1) := by decide +kernel
theorem dX11_joinLine_11 : decode cX11_joinLine 11 = .ok (.aload_n 0, 1) := by decide +kernel
theorem dX11_joinLine_12 : decode cX11_joinLine 12 = .ok (.getfield 23, 3) := by decide +kernel
theorem dX11_joinLine_15 : decode cX11_joinLine 15 = .ok (.bipush 9, 2) := by decide +kernel
theorem dX11_joinLine_17 : decode cX11_joinLine 17 = .ok (.iaload, 1) := by decide +kernel
theorem dX11_joinLine_18 : decode cX11_joinLine 18 = .ok (.imul, 1) := by decide +kernel
theorem dX11_joinLine_19 : decode cX11_joinLine 19 = .ok (.iadd, 1) := by decide +kernel
theorem dX11_joinLine_20 : decode cX11_joinLine 20 = .ok (.istore_n 1, 1) := by decide +kernel
theorem dX11_joinLine_21 : decode cX11_joinLine 21 = .ok (.aload_n 0, 1) := by decide +kernel
theorem dX11_joinLine_22 : decode cX11_joinLine 22 = .ok (.getfield 23, 3) := by decide +kernel
theorem dX11_joinLine_25 : decode cX11_joinLine 25 = .ok (.iload_n 1, 1) := by decide +kernel
theorem dX11_joinLine_26 : decode cX11_joinLine 26 = .ok (.aload_n 0, 1) := by decide +kernel
theorem dX11_joinLine_27 : decode cX11_joinLine 27 = .ok (.invokevirtual 288, 3) := by decide +kernel
theorem dX11_joinLine_30 : decode cX11_joinLine 30 = .ok (.iastore, 1) := by decide +kernel
theorem dX11_joinLine_31 : decode cX11_joinLine 31 = .ok (.aload_n 0, 1) := by decide +kernel
theorem dX11_joinLine_32 : decode cX11_joinLine 32 = .ok (.getfield 121, 3) := by decide +kernel
theorem dX11_joinLine_35 : decode cX11_joinLine 35 = .ok (.ifCond .ne 14, 3) := by decide +kernel
theorem dX11_joinLine_38 : decode cX11_joinLine 38 = .ok (.aload_n 0, 1) := by decide +kernel
theorem dX11_joinLine_39 : decode cX11_joinLine 39 = .ok (.aload_n 0, 1) := by decide +kernel
theorem dX11_joinLine_40 : decode cX11_joinLine 40 = .ok (.getfield 23, 3) := by decide +kernel
theorem dX11_joinLine_43 : decode cX11_joinLine 43 = .ok (.iload_n 1, 1) := by decide +kernel
theorem dX11_joinLine_44 : decode cX11_joinLine 44 = .ok (.iaload, 1) := by decide +kernel
theorem dX11_joinLine_45 : decode cX11_joinLine 45 = .ok (.invokevirtual 291, 3) := by decide +kernel
theorem dX11_joinLine_48 : decode cX11_joinLine 48 = .ok (.pop, 1) := by decide +kernel
theorem dX11_joinLine_49 : decode cX11_joinLine 49 = .ok (.aload_n 0, 1) := by decide +kernel
theorem dX11_joinLine_50 : decode cX11_joinLine 50 = .ok (.getfield 23, 3) := by decide +kernel
theorem dX11_joinLine_53 : decode cX11_joinLine 53 = .ok (.iload_n 1, 1) := by decide +kernel
theorem dX11_joinLine_54 : decode cX11_joinLine 54 = .ok (.iconst 1, 1) := by decide +kernel
theorem dX11_joinLine_55 : decode cX11_joinLine 55 = .ok (.iadd, 1) := by decide +kernel
theorem dX11_joinLine_56 : decode cX11_joinLine 56 = .ok (.aload_n 0, 1) := by decide +kernel
theorem dX11_joinLine_57 : decode cX11_joinLine 57 = .ok (.ldc_w 294, 3) := by decide +kernel
theorem dX11_joinLine_60 : decode cX11_joinLine 60 = .ok (.iconst 1, 1) := by decide +kernel
theorem dX11_joinLine_61 : decode cX11_joinLine 61 = .ok (.bipush 99, 2) := by decide +kernel
theorem dX11_joinLine_63 : decode cX11_joinLine 63 = .ok (.invokevirtual 264, 3) := by decide +kernel
theorem dX11_joinLine_66 : decode cX11_joinLine 66 = .ok (.iastore, 1) := by decide +kernel
theorem dX11_joinLine_67 : decode cX11_joinLine 67 = .ok (.aload_n 0, 1) := by decide +kernel
theorem dX11_joinLine_68 : decode cX11_joinLine 68 = .ok (.getfield 121, 3) := by decide +kernel
theorem dX11_joinLine_71 : decode cX11_joinLine 71 = .ok (.ifCond .ne 14, 3) := by decide +kernel
theorem dX11_joinLine_74 : decode cX11_joinLine 74 = .ok (.aload_n 0, 1) := by decide +kernel
theorem dX11_joinLine_75 : decode cX11_joinLine 75 = .ok (.getfield 23, 3) := by decide +kernel
theorem dX11_joinLine_78 : decode cX11_joinLine 78 = .ok (.bipush 9, 2) := by decide +kernel
theorem dX11_joinLine_80 : decode cX11_joinLine 80 = .ok (.dup2, 1) := by decide +kernel
theorem dX11_joinLine_81 : decode cX11_joinLine 81 = .ok (.iaload, 1) := by decide +kernel
theorem dX11_joinLine_82 : decode cX11_joinLine 82 = .ok (.iconst 1, 1) := by decide +kernel
theorem dX11_joinLine_83 : decode cX11_joinLine 83 = .ok (.iadd, 1) := by decide +kernel
theorem dX11_joinLine_84 : decode cX11_joinLine 84 = .ok (.iastore, 1) := by decide +kernel
theorem dX11_joinLine_85 : decode cX11_joinLine 85 = .ok (.return_, 1) := by decide +kernel
set_option maxHeartbeats 4000000 in
set_option maxRecDepth 100000 in
theorem m_joinLine (l : Launch) (g : Gx) (h0 : Nat) (m_thrown : Int32) (a_tape : Nat) (m_taped : Int32) (m_size : Int32) (m_at : Int32) (m_end : Int32) (m_token : Int32) (m_whole : Int32) (m_nameSize : Int32) (m_fault : Int32) (m_place : Int32) (m_trouble : Int32) (a_letters : Nat) (m_failed : Int32) (m_hasHouse : Int32) (a_r : Nat) (a_fresh : Nat) (a_st : Nat) (a_undone : Nat) (a_kept : Nat) (m_undos : Int32) (m_images : Int32) (a_from : Nat) (a_begin : Nat) (a_motor : Nat) (a_change : Nat) (a_startFrame : Nat) (a_changeFrame : Nat) (a_lostAt : Nat) (a_blackAt : Nat) (a_slips : Nat) (a_leftArc : Nat) (a_died : Nat) (a_arcs : Nat) (m_bestSum : Int32) (m_nearest : Int32) (m_nearestTown : Int32) (a_there : Nat) (a_backAt : Nat) (a_sorted : Nat) (a_parts : Nat) (m_seed1 : Int32) (m_darkNow : Int32) (d_tape : Nat → Int32) (d_letters : Nat → Int32) (d_fresh : Nat → Int32) (hv_m_size : IV m_size 0 900) (hv_m_end : IV m_end 0 900) (hv_m_nameSize : IV m_nameSize 0 900) (hv_m_failed : IV m_failed 0 1) (hp_d_fresh : RInv d_fresh) (hc_0 : m_failed = 1 ∨ ((d_fresh 9).toInt ≤ 7)) (hc_1 : m_token = 2 → IV m_nameSize 0 8) : cV l g yX11_joinLine cX11_joinLine 2 8 173 0 0 [.ref h0] [(h0, .inr (11, [.int m_thrown, .ref a_tape, .int m_taped, .int m_size, .int m_at, .int m_end, .int m_token, .int m_whole, .int m_nameSize, .int m_fault, .int m_place, .int m_trouble, .ref a_letters, .int m_failed, .int m_hasHouse, .ref a_r, .ref a_fresh, .ref a_st, .ref a_undone, .ref a_kept, .int m_undos, .int m_images, .ref a_from, .ref a_begin, .ref a_motor, .ref a_change, .ref a_startFrame, .ref a_changeFrame, .ref a_lostAt, .ref a_blackAt, .ref a_slips, .ref a_leftArc, .ref a_died, .ref a_arcs, .int m_bestSum, .int m_nearest, .int m_nearestTown, .ref a_there, .ref a_backAt, .ref a_sorted, .ref a_parts, .int m_seed1, .int m_darkNow])), (a_tape, .inl (g.2.2.1, 900, .inl d_tape)), (a_letters, .inl (g.2.2.1, 8, .inl d_letters)), (a_fresh, .inl (g.2.2.1, 311, .inl d_fresh))] (fun w => ∃ (m_at2 : Int32) (m_end2 : Int32) (m_failed2 : Int32) (m_fault2 : Int32) (d_fresh2 : Nat → Int32) (d_letters2 : Nat → Int32) (m_nameSize2 : Int32) (m_place2 : Int32) (m_token2 : Int32) (m_whole2 : Int32), IV m_end2 0 900 ∧ IV m_failed2 0 1 ∧ IV m_nameSize2 0 900 ∧ RInv d_fresh2 ∧ (m_end.toInt ≤ m_end2.toInt) ∧ (m_token2 = 2 → IV m_nameSize2 0 8) ∧ w = [(h0, .inr (11, [.int m_thrown, .ref a_tape, .int m_taped, .int m_size, .int m_at2, .int m_end2, .int m_token2, .int m_whole2, .int m_nameSize2, .int m_fault2, .int m_place2, .int m_trouble, .ref a_letters, .int m_failed2, .int m_hasHouse, .ref a_r, .ref a_fresh, .ref a_st, .ref a_undone, .ref a_kept, .int m_undos, .int m_images, .ref a_from, .ref a_begin, .ref a_motor, .ref a_change, .ref a_startFrame, .ref a_changeFrame, .ref a_lostAt, .ref a_blackAt, .ref a_slips, .ref a_leftArc, .ref a_died, .ref a_arcs, .int m_bestSum, .int m_nearest, .int m_nearestTown, .ref a_there, .ref a_backAt, .ref a_sorted, .ref a_parts, .int m_seed1, .int m_darkNow])), (a_tape, .inl (g.2.2.1, 900, .inl d_tape)), (a_letters, .inl (g.2.2.1, 8, .inl d_letters2)), (a_fresh, .inl (g.2.2.1, 311, .inl d_fresh2))]) := by
  refine cV.of (by decide) (Nat.le_of_ble_eq_true rfl) ?_
  intro p e s m args below meth c A X hr hi
  refine k_lveq [(0, .ref h0)] rfl ?_
  refine k_aload_n X dX11_joinLine_0 0 rfl ?_
  refine k_get (ci := 11) X inlX11 rfl 13 (by decide) dX11_joinLine_1 mw469 0 rfl rfl ?_
  refine k_if_eq 8 X dX11_joinLine_4 (by decide) (fun h_1 => ?_) (fun h_1 => ?_)
  · skip
    have iv_2 : IV m_failed 0 0 := iv_meet hv_m_failed (iv_e h_1 (show IV 0 0 0 from (by decide))) (by decide) (by decide)
    have hc_3 := hc_0.resolve_left (fun q => iv_eqN q iv_2 (show IV 1 1 1 from (by decide)) (by decide))
    have j_4 : (d_fresh 9).toInt ≤ 7 := hc_3
    refine k_bipush (v := 80) X dX11_joinLine_8 (by decide) ?_
    refine k_iconst (v := 2) X dX11_joinLine_10 (by decide) ?_
    refine k_aload_n X dX11_joinLine_11 0 rfl ?_
    refine k_get (ci := 11) X inlX11 rfl 16 (by decide) dX11_joinLine_12 mw171 0 rfl rfl ?_
    refine k_bipush (v := 9) X dX11_joinLine_15 (by decide) ?_
    refine k_iald X dX11_joinLine_17 3 rfl (by unfold vp_in; decide) ?_
    refine k_nm (fun z_5 ez_5 => ?_)
    have i_6 : z_5.toInt = (d_fresh 9).toInt := by rw [ez_5]; rfl
    have iv_7 : IV z_5 0 7 := by have := rb_9 ez_5 hp_d_fresh; rw [IV]; omega
    refine k_imul X dX11_joinLine_18 ?_
    refine k_nm (fun z_8 ez_8 => ?_)
    have i_9 : z_8.toInt = 2 * z_5.toInt := in_mul ez_8 (by decide) (by decide) iv_7 (by decide) (by decide)
    have iv_10 : IV z_8 0 14 := by have := (show IV 2 2 2 from (by decide)); have := iv_7; rw [IV, i_9]; omega
    refine k_iadd X dX11_joinLine_19 ?_
    refine k_nm (fun z_11 ez_11 => ?_)
    have i_12 : z_11.toInt = 80 + z_8.toInt := in_add ez_11 (show IV 80 80 80 from (by decide)) iv_10 (by decide) (by decide)
    have iv_13 : IV z_11 80 94 := by have := (show IV 80 80 80 from (by decide)); have := iv_10; rw [IV, i_12]; omega
    refine k_istore_n [(1, .int z_11), (0, .ref h0)] X dX11_joinLine_20 (by decide) rfl ?_
    refine k_aload_n X dX11_joinLine_21 1 rfl ?_
    refine k_get (ci := 11) X inlX11 rfl 16 (by decide) dX11_joinLine_22 mw171 0 rfl rfl ?_
    refine k_iload_n X dX11_joinLine_25 0 rfl ?_
    refine k_aload_n X dX11_joinLine_26 1 rfl ?_
    refine k_callVI (n := 0) (As := []) (st := [.int z_11, .ref a_fresh]) X [(h0, .inr (11, [.int m_thrown, .ref a_tape, .int m_taped, .int m_size, .int m_at, .int m_end, .int m_token, .int m_whole, .int m_nameSize, .int m_fault, .int m_place, .int m_trouble, .ref a_letters, .int m_failed, .int m_hasHouse, .ref a_r, .ref a_fresh, .ref a_st, .ref a_undone, .ref a_kept, .int m_undos, .int m_images, .ref a_from, .ref a_begin, .ref a_motor, .ref a_change, .ref a_startFrame, .ref a_changeFrame, .ref a_lostAt, .ref a_blackAt, .ref a_slips, .ref a_leftArc, .ref a_died, .ref a_arcs, .int m_bestSum, .int m_nearest, .int m_nearestTown, .ref a_there, .ref a_backAt, .ref a_sorted, .ref a_parts, .int m_seed1, .int m_darkNow])), (a_tape, .inl (g.2.2.1, 900, .inl d_tape)), (a_letters, .inl (g.2.2.1, 8, .inl d_letters)), (a_fresh, .inl (g.2.2.1, 311, .inl d_fresh))] [] [0, 1, 2, 3] [] (m_reelPassed l g h0 m_thrown a_tape m_taped m_size m_at m_end m_token m_whole m_nameSize m_fault m_place m_trouble a_letters m_failed m_hasHouse a_r a_fresh a_st a_undone a_kept m_undos m_images a_from a_begin a_motor a_change a_startFrame a_changeFrame a_lostAt a_blackAt a_slips a_leftArc a_died a_arcs m_bestSum m_nearest m_nearestTown a_there a_backAt a_sorted a_parts m_seed1 m_darkNow d_tape d_letters d_fresh (iv_w hv_m_size (by decide) (by decide)) (iv_w hv_m_end (by decide) (by decide)) (iv_w hv_m_nameSize (by decide) (by decide)) (iv_w iv_2 (by decide) (by decide)) hp_d_fresh hc_1) dX11_joinLine_27 mw571 mw572 mw573 mw5 mw574 rfl 11 rfl rfl 0 _ rfl (by unfold yOk; decide) rfl (Nat.le_of_ble_eq_true rfl) (Nat.le_of_ble_eq_true rfl) (Nat.le_of_ble_eq_true rfl) (Nat.le_of_ble_eq_true rfl) (Nat.le_of_ble_eq_true rfl) rfl rfl (by decide) rfl (by decide) (by decide) ?_
    rintro r_23 w ⟨m_at2_14, m_end2_15, m_failed2_16, m_fault2_17, d_letters2_18, m_nameSize2_19, m_place2_20, m_token2_21, m_whole2_22, iv_24, iv_25, iv_26, iv_27, hq_28, hk_29, rfl⟩
    refine k_ws [(h0, .inr (11, [.int m_thrown, .ref a_tape, .int m_taped, .int m_size, .int m_at2_14, .int m_end2_15, .int m_token2_21, .int m_whole2_22, .int m_nameSize2_19, .int m_fault2_17, .int m_place2_20, .int m_trouble, .ref a_letters, .int m_failed2_16, .int m_hasHouse, .ref a_r, .ref a_fresh, .ref a_st, .ref a_undone, .ref a_kept, .int m_undos, .int m_images, .ref a_from, .ref a_begin, .ref a_motor, .ref a_change, .ref a_startFrame, .ref a_changeFrame, .ref a_lostAt, .ref a_blackAt, .ref a_slips, .ref a_leftArc, .ref a_died, .ref a_arcs, .int m_bestSum, .int m_nearest, .int m_nearestTown, .ref a_there, .ref a_backAt, .ref a_sorted, .ref a_parts, .int m_seed1, .int m_darkNow])), (a_tape, .inl (g.2.2.1, 900, .inl d_tape)), (a_letters, .inl (g.2.2.1, 8, .inl d_letters2_18)), (a_fresh, .inl (g.2.2.1, 311, .inl d_fresh))] rfl ?_
    refine k_iast [(h0, .inr (11, [.int m_thrown, .ref a_tape, .int m_taped, .int m_size, .int m_at2_14, .int m_end2_15, .int m_token2_21, .int m_whole2_22, .int m_nameSize2_19, .int m_fault2_17, .int m_place2_20, .int m_trouble, .ref a_letters, .int m_failed2_16, .int m_hasHouse, .ref a_r, .ref a_fresh, .ref a_st, .ref a_undone, .ref a_kept, .int m_undos, .int m_images, .ref a_from, .ref a_begin, .ref a_motor, .ref a_change, .ref a_startFrame, .ref a_changeFrame, .ref a_lostAt, .ref a_blackAt, .ref a_slips, .ref a_leftArc, .ref a_died, .ref a_arcs, .int m_bestSum, .int m_nearest, .int m_nearestTown, .ref a_there, .ref a_backAt, .ref a_sorted, .ref a_parts, .int m_seed1, .int m_darkNow])), (a_tape, .inl (g.2.2.1, 900, .inl d_tape)), (a_letters, .inl (g.2.2.1, 8, .inl d_letters2_18)), (a_fresh, .inl (g.2.2.1, 311, .inl (upd d_fresh (z_11 : Int32).toNatClampNeg r_23)))] X dX11_joinLine_30 3 rfl (iv_in iv_13 (by decide) (by decide)) rfl ?_
    have i_32 : z_11.toInt = 80 + 2 * z_5.toInt := by omega
    refine (fun hg : ∀ fa_30 : Nat → Int32, RInv fa_30 → K16 d_fresh fa_30 → Wk p l e _ s m args below meth c _ A g _ _ _ [(h0, .inr (11, [.int m_thrown, .ref a_tape, .int m_taped, .int m_size, .int m_at2_14, .int m_end2_15, .int m_token2_21, .int m_whole2_22, .int m_nameSize2_19, .int m_fault2_17, .int m_place2_20, .int m_trouble, .ref a_letters, .int m_failed2_16, .int m_hasHouse, .ref a_r, .ref a_fresh, .ref a_st, .ref a_undone, .ref a_kept, .int m_undos, .int m_images, .ref a_from, .ref a_begin, .ref a_motor, .ref a_change, .ref a_startFrame, .ref a_changeFrame, .ref a_lostAt, .ref a_blackAt, .ref a_slips, .ref a_leftArc, .ref a_died, .ref a_arcs, .int m_bestSum, .int m_nearest, .int m_nearestTown, .ref a_there, .ref a_backAt, .ref a_sorted, .ref a_parts, .int m_seed1, .int m_darkNow])), (a_tape, .inl (g.2.2.1, 900, .inl d_tape)), (a_letters, .inl (g.2.2.1, 8, .inl d_letters2_18)), (a_fresh, .inl (g.2.2.1, 311, .inl fa_30))] _ _ _ => hg _ (w_rb_80_2 hp_d_fresh i_32 (iv_w iv_7 (by decide) (by decide)) (iv_w iv_27 (by decide) (by decide))) (k16_u (by have := iv_13; omega))) (fun fa_30 hR_31 hk_33 => ?_)
    have ek_34 : z_5 = fa_30 (9 : Int32).toNatClampNeg := ez_5.trans (hk_33 _ (by decide)).symm
    refine k_aload_n X dX11_joinLine_31 1 rfl ?_
    refine k_get (ci := 11) X inlX11 rfl 13 (by decide) dX11_joinLine_32 mw469 0 rfl rfl ?_
    refine k_if_ne 49 X dX11_joinLine_35 (by decide) (fun h_35 => ?_) (fun h_35 => ?_)
    · skip
      have iv_36 : IV m_failed2_16 1 1 := iv_neL h_35 iv_25 (show IV 0 0 0 from (by decide)) (by decide)
      refine k_aload_n X dX11_joinLine_49 1 rfl ?_
      refine k_get (ci := 11) X inlX11 rfl 16 (by decide) dX11_joinLine_50 mw171 0 rfl rfl ?_
      refine k_iload_n X dX11_joinLine_53 0 rfl ?_
      refine k_iconst (v := 1) X dX11_joinLine_54 (by decide) ?_
      refine k_iadd X dX11_joinLine_55 ?_
      refine k_nm (fun z_37 ez_37 => ?_)
      have i_38 : z_37.toInt = z_11.toInt + 1 := in_add ez_37 iv_13 (show IV 1 1 1 from (by decide)) (by decide) (by decide)
      have iv_39 : IV z_37 81 95 := by have := iv_13; have := (show IV 1 1 1 from (by decide)); rw [IV, i_38]; omega
      refine k_aload_n X dX11_joinLine_56 1 rfl ?_
      refine k_ldcwS (tx := "lacks") X dX11_joinLine_57 (by decide +kernel) (fun sr_40 hsr_40 => ?_)
      refine k_iconst (v := 1) X dX11_joinLine_60 (by decide) ?_
      refine k_bipush (v := 99) X dX11_joinLine_61 (by decide) ?_
      refine k_callVI (n := 3) (As := [.ref sr_40, .int 1, .int 99]) (st := [.int z_37, .ref a_fresh]) X [(h0, .inr (11, [.int m_thrown, .ref a_tape, .int m_taped, .int m_size, .int m_at2_14, .int m_end2_15, .int m_token2_21, .int m_whole2_22, .int m_nameSize2_19, .int m_fault2_17, .int m_place2_20, .int m_trouble, .ref a_letters, .int m_failed2_16, .int m_hasHouse, .ref a_r, .ref a_fresh, .ref a_st, .ref a_undone, .ref a_kept, .int m_undos, .int m_images, .ref a_from, .ref a_begin, .ref a_motor, .ref a_change, .ref a_startFrame, .ref a_changeFrame, .ref a_lostAt, .ref a_blackAt, .ref a_slips, .ref a_leftArc, .ref a_died, .ref a_arcs, .int m_bestSum, .int m_nearest, .int m_nearestTown, .ref a_there, .ref a_backAt, .ref a_sorted, .ref a_parts, .int m_seed1, .int m_darkNow])), (a_tape, .inl (g.2.2.1, 900, .inl d_tape)), (a_letters, .inl (g.2.2.1, 8, .inl d_letters2_18))] [(a_fresh, .inl (g.2.2.1, 311, .inl fa_30))] [0, 1, 2] [3] (m_after l g h0 sr_40 1 99 m_thrown a_tape m_taped m_size m_at2_14 m_end2_15 m_token2_21 m_whole2_22 m_nameSize2_19 m_fault2_17 m_place2_20 m_trouble a_letters m_failed2_16 m_hasHouse a_r a_fresh a_st a_undone a_kept m_undos m_images a_from a_begin a_motor a_change a_startFrame a_changeFrame a_lostAt a_blackAt a_slips a_leftArc a_died a_arcs m_bestSum m_nearest m_nearestTown a_there a_backAt a_sorted a_parts m_seed1 m_darkNow d_tape d_letters2_18 ("lacks") (iv_w hv_m_size (by decide) (by decide)) (iv_w iv_24 (by decide) (by decide)) (iv_w iv_26 (by decide) (by decide)) (iv_w iv_36 (by decide) (by decide)) hsr_40 hk_29) dX11_joinLine_63 mw523 mw524 mw525 mw5 mw526 rfl 11 rfl rfl 0 _ rfl (by unfold yOk; decide) rfl (Nat.le_of_ble_eq_true rfl) (Nat.le_of_ble_eq_true rfl) (Nat.le_of_ble_eq_true rfl) (Nat.le_of_ble_eq_true rfl) (Nat.le_of_ble_eq_true rfl) rfl rfl (by decide) rfl (by decide) (by decide) ?_
      rintro r_50 w ⟨m_at2_41, m_end2_42, m_failed2_43, m_fault2_44, d_letters2_45, m_nameSize2_46, m_place2_47, m_token2_48, m_whole2_49, iv_51, iv_52, iv_53, hq_54, hq_55, hk_56, rfl⟩
      refine k_ws [(a_fresh, .inl (g.2.2.1, 311, .inl fa_30)), (h0, .inr (11, [.int m_thrown, .ref a_tape, .int m_taped, .int m_size, .int m_at2_41, .int m_end2_42, .int m_token2_48, .int m_whole2_49, .int m_nameSize2_46, .int m_fault2_44, .int m_place2_47, .int m_trouble, .ref a_letters, .int m_failed2_43, .int m_hasHouse, .ref a_r, .ref a_fresh, .ref a_st, .ref a_undone, .ref a_kept, .int m_undos, .int m_images, .ref a_from, .ref a_begin, .ref a_motor, .ref a_change, .ref a_startFrame, .ref a_changeFrame, .ref a_lostAt, .ref a_blackAt, .ref a_slips, .ref a_leftArc, .ref a_died, .ref a_arcs, .int m_bestSum, .int m_nearest, .int m_nearestTown, .ref a_there, .ref a_backAt, .ref a_sorted, .ref a_parts, .int m_seed1, .int m_darkNow])), (a_tape, .inl (g.2.2.1, 900, .inl d_tape)), (a_letters, .inl (g.2.2.1, 8, .inl d_letters2_45))] rfl ?_
      have e_57 : (1 : Int32).toInt = 1 := by decide
      have e_58 : (99 : Int32).toInt = 99 := by decide
      have iv_59 : IV r_50 1 99 := by have := (show IV 1 1 1 from (by decide)); have := (show IV 99 99 99 from (by decide)); rw [IV]; omega
      refine k_iast [(a_fresh, .inl (g.2.2.1, 311, .inl (upd fa_30 (z_37 : Int32).toNatClampNeg r_50))), (h0, .inr (11, [.int m_thrown, .ref a_tape, .int m_taped, .int m_size, .int m_at2_41, .int m_end2_42, .int m_token2_48, .int m_whole2_49, .int m_nameSize2_46, .int m_fault2_44, .int m_place2_47, .int m_trouble, .ref a_letters, .int m_failed2_43, .int m_hasHouse, .ref a_r, .ref a_fresh, .ref a_st, .ref a_undone, .ref a_kept, .int m_undos, .int m_images, .ref a_from, .ref a_begin, .ref a_motor, .ref a_change, .ref a_startFrame, .ref a_changeFrame, .ref a_lostAt, .ref a_blackAt, .ref a_slips, .ref a_leftArc, .ref a_died, .ref a_arcs, .int m_bestSum, .int m_nearest, .int m_nearestTown, .ref a_there, .ref a_backAt, .ref a_sorted, .ref a_parts, .int m_seed1, .int m_darkNow])), (a_tape, .inl (g.2.2.1, 900, .inl d_tape)), (a_letters, .inl (g.2.2.1, 8, .inl d_letters2_45))] X dX11_joinLine_66 0 rfl (iv_in iv_39 (by decide) (by decide)) rfl ?_
      have i_62 : z_37.toInt = 81 + 2 * z_5.toInt := by omega
      refine (fun hg : ∀ fa_60 : Nat → Int32, RInv fa_60 → K16 fa_30 fa_60 → Wk p l e _ s m args below meth c _ A g _ _ _ [(a_fresh, .inl (g.2.2.1, 311, .inl fa_60)), (h0, .inr (11, [.int m_thrown, .ref a_tape, .int m_taped, .int m_size, .int m_at2_41, .int m_end2_42, .int m_token2_48, .int m_whole2_49, .int m_nameSize2_46, .int m_fault2_44, .int m_place2_47, .int m_trouble, .ref a_letters, .int m_failed2_43, .int m_hasHouse, .ref a_r, .ref a_fresh, .ref a_st, .ref a_undone, .ref a_kept, .int m_undos, .int m_images, .ref a_from, .ref a_begin, .ref a_motor, .ref a_change, .ref a_startFrame, .ref a_changeFrame, .ref a_lostAt, .ref a_blackAt, .ref a_slips, .ref a_leftArc, .ref a_died, .ref a_arcs, .int m_bestSum, .int m_nearest, .int m_nearestTown, .ref a_there, .ref a_backAt, .ref a_sorted, .ref a_parts, .int m_seed1, .int m_darkNow])), (a_tape, .inl (g.2.2.1, 900, .inl d_tape)), (a_letters, .inl (g.2.2.1, 8, .inl d_letters2_45))] _ _ _ => hg _ (w_fr_81_2 hR_31 i_62 (iv_w iv_7 (by decide) (by decide))) (k16_u (by have := iv_39; omega))) (fun fa_60 hR_61 hk_63 => ?_)
      have ek_64 : z_5 = fa_60 (9 : Int32).toNatClampNeg := ek_34.trans (hk_63 _ (by decide)).symm
      refine k_aload_n X dX11_joinLine_67 1 rfl ?_
      refine k_get (ci := 11) X inlX11 rfl 13 (by decide) dX11_joinLine_68 mw469 1 rfl rfl ?_
      refine k_if_ne 85 X dX11_joinLine_71 (by decide) (fun h_65 => ?_) (fun h_65 => ?_)
      · skip
        have iv_66 : IV m_failed2_43 1 1 := iv_neL h_65 iv_52 (show IV 0 0 0 from (by decide)) (by decide)
        exact k_vret X hr dX11_joinLine_85 (Nat.le_of_ble_eq_true rfl) (Nat.le_of_ble_eq_true rfl) [1, 2, 3, 0] (by decide) rfl rfl ⟨m_at2_41, m_end2_42, m_failed2_43, m_fault2_44, fa_60, d_letters2_45, m_nameSize2_46, m_place2_47, m_token2_48, m_whole2_49, (iv_w iv_51 (by decide) (by decide)), (iv_w iv_66 (by decide) (by decide)), (iv_w iv_53 (by decide) (by decide)), hR_61, (by omega), hk_56, rfl⟩
      · skip
        have iv_67 : IV m_failed2_43 0 0 := iv_meet iv_52 (iv_e h_65 (show IV 0 0 0 from (by decide))) (by decide) (by decide)
        refine k_aload_n X dX11_joinLine_74 1 rfl ?_
        refine k_get (ci := 11) X inlX11 rfl 16 (by decide) dX11_joinLine_75 mw171 1 rfl rfl ?_
        refine k_bipush (v := 9) X dX11_joinLine_78 (by decide) ?_
        refine k_dup2 X dX11_joinLine_80 rfl rfl ?_
        refine k_iald X dX11_joinLine_81 0 rfl (by unfold vp_in; decide) ?_
        refine k_to z_5 ek_64.symm ?_
        refine k_iconst (v := 1) X dX11_joinLine_82 (by decide) ?_
        refine k_iadd X dX11_joinLine_83 ?_
        refine k_nm (fun z_68 ez_68 => ?_)
        have i_69 : z_68.toInt = z_5.toInt + 1 := in_add ez_68 iv_7 (show IV 1 1 1 from (by decide)) (by decide) (by decide)
        have iv_70 : IV z_68 1 8 := by have := iv_7; have := (show IV 1 1 1 from (by decide)); rw [IV, i_69]; omega
        refine k_iast [(a_fresh, .inl (g.2.2.1, 311, .inl (upd fa_60 (9 : Int32).toNatClampNeg z_68))), (h0, .inr (11, [.int m_thrown, .ref a_tape, .int m_taped, .int m_size, .int m_at2_41, .int m_end2_42, .int m_token2_48, .int m_whole2_49, .int m_nameSize2_46, .int m_fault2_44, .int m_place2_47, .int m_trouble, .ref a_letters, .int m_failed2_43, .int m_hasHouse, .ref a_r, .ref a_fresh, .ref a_st, .ref a_undone, .ref a_kept, .int m_undos, .int m_images, .ref a_from, .ref a_begin, .ref a_motor, .ref a_change, .ref a_startFrame, .ref a_changeFrame, .ref a_lostAt, .ref a_blackAt, .ref a_slips, .ref a_leftArc, .ref a_died, .ref a_arcs, .int m_bestSum, .int m_nearest, .int m_nearestTown, .ref a_there, .ref a_backAt, .ref a_sorted, .ref a_parts, .int m_seed1, .int m_darkNow])), (a_tape, .inl (g.2.2.1, 900, .inl d_tape)), (a_letters, .inl (g.2.2.1, 8, .inl d_letters2_45))] X dX11_joinLine_84 0 rfl (by unfold vp_in; decide) rfl ?_
        refine (fun hg : ∀ fa_71 : Nat → Int32, RInv fa_71 → Wk p l e _ s m args below meth c _ A g _ _ _ [(a_fresh, .inl (g.2.2.1, 311, .inl fa_71)), (h0, .inr (11, [.int m_thrown, .ref a_tape, .int m_taped, .int m_size, .int m_at2_41, .int m_end2_42, .int m_token2_48, .int m_whole2_49, .int m_nameSize2_46, .int m_fault2_44, .int m_place2_47, .int m_trouble, .ref a_letters, .int m_failed2_43, .int m_hasHouse, .ref a_r, .ref a_fresh, .ref a_st, .ref a_undone, .ref a_kept, .int m_undos, .int m_images, .ref a_from, .ref a_begin, .ref a_motor, .ref a_change, .ref a_startFrame, .ref a_changeFrame, .ref a_lostAt, .ref a_blackAt, .ref a_slips, .ref a_leftArc, .ref a_died, .ref a_arcs, .int m_bestSum, .int m_nearest, .int m_nearestTown, .ref a_there, .ref a_backAt, .ref a_sorted, .ref a_parts, .int m_seed1, .int m_darkNow])), (a_tape, .inl (g.2.2.1, 900, .inl d_tape)), (a_letters, .inl (g.2.2.1, 8, .inl d_letters2_45))] _ _ _ => hg _ (w_rb_9 hR_61 (iv_w iv_70 (by decide) (by decide)))) (fun fa_71 hR_72 => ?_)
        exact k_vret X hr dX11_joinLine_85 (Nat.le_of_ble_eq_true rfl) (Nat.le_of_ble_eq_true rfl) [1, 2, 3, 0] (by decide) rfl rfl ⟨m_at2_41, m_end2_42, m_failed2_43, m_fault2_44, fa_71, d_letters2_45, m_nameSize2_46, m_place2_47, m_token2_48, m_whole2_49, (iv_w iv_51 (by decide) (by decide)), (iv_w iv_67 (by decide) (by decide)), (iv_w iv_53 (by decide) (by decide)), hR_72, (by omega), hk_56, rfl⟩
    · skip
      have iv_74 : IV m_failed2_16 0 0 := iv_meet iv_25 (iv_e h_35 (show IV 0 0 0 from (by decide))) (by decide) (by decide)
      refine k_aload_n X dX11_joinLine_38 1 rfl ?_
      refine k_aload_n X dX11_joinLine_39 1 rfl ?_
      refine k_get (ci := 11) X inlX11 rfl 16 (by decide) dX11_joinLine_40 mw171 0 rfl rfl ?_
      refine k_iload_n X dX11_joinLine_43 0 rfl ?_
      refine k_iald X dX11_joinLine_44 3 rfl (iv_in iv_13 (by decide) (by decide)) ?_
      refine k_nm (fun z_75 ez_75 => ?_)
      have i_76 : z_11.toInt = 80 + 2 * z_5.toInt := by omega
      have iv_77 : IV z_75 0 7 := rb_80_2 ez_75 hR_31 i_76 (iv_w iv_7 (by decide) (by decide))
      refine k_callVI (n := 1) (As := [.int z_75]) (st := []) X [(h0, .inr (11, [.int m_thrown, .ref a_tape, .int m_taped, .int m_size, .int m_at2_14, .int m_end2_15, .int m_token2_21, .int m_whole2_22, .int m_nameSize2_19, .int m_fault2_17, .int m_place2_20, .int m_trouble, .ref a_letters, .int m_failed2_16, .int m_hasHouse, .ref a_r, .ref a_fresh, .ref a_st, .ref a_undone, .ref a_kept, .int m_undos, .int m_images, .ref a_from, .ref a_begin, .ref a_motor, .ref a_change, .ref a_startFrame, .ref a_changeFrame, .ref a_lostAt, .ref a_blackAt, .ref a_slips, .ref a_leftArc, .ref a_died, .ref a_arcs, .int m_bestSum, .int m_nearest, .int m_nearestTown, .ref a_there, .ref a_backAt, .ref a_sorted, .ref a_parts, .int m_seed1, .int m_darkNow])), (a_tape, .inl (g.2.2.1, 900, .inl d_tape)), (a_letters, .inl (g.2.2.1, 8, .inl d_letters2_18)), (a_fresh, .inl (g.2.2.1, 311, .inl fa_30))] [] [0, 1, 2, 3] [] (m_frameOf l g h0 z_75 m_thrown a_tape m_taped m_size m_at2_14 m_end2_15 m_token2_21 m_whole2_22 m_nameSize2_19 m_fault2_17 m_place2_20 m_trouble a_letters m_failed2_16 m_hasHouse a_r a_fresh a_st a_undone a_kept m_undos m_images a_from a_begin a_motor a_change a_startFrame a_changeFrame a_lostAt a_blackAt a_slips a_leftArc a_died a_arcs m_bestSum m_nearest m_nearestTown a_there a_backAt a_sorted a_parts m_seed1 m_darkNow d_tape d_letters2_18 fa_30 (iv_w iv_77 (by decide) (by decide)) (iv_w hv_m_size (by decide) (by decide)) (iv_w iv_24 (by decide) (by decide)) (iv_w iv_26 (by decide) (by decide)) (iv_w iv_74 (by decide) (by decide)) hR_31 hk_29) dX11_joinLine_45 mw579 mw580 mw581 mw5 mw582 rfl 11 rfl rfl 0 _ rfl (by unfold yOk; decide) rfl (Nat.le_of_ble_eq_true rfl) (Nat.le_of_ble_eq_true rfl) (Nat.le_of_ble_eq_true rfl) (Nat.le_of_ble_eq_true rfl) (Nat.le_of_ble_eq_true rfl) rfl rfl (by decide) rfl (by decide) (by decide) ?_
      rintro r_87 w ⟨m_at2_78, m_end2_79, m_failed2_80, m_fault2_81, d_letters2_82, m_nameSize2_83, m_place2_84, m_token2_85, m_whole2_86, iv_88, iv_89, iv_90, hq_91, hk_92, rfl⟩
      refine k_ws [(h0, .inr (11, [.int m_thrown, .ref a_tape, .int m_taped, .int m_size, .int m_at2_78, .int m_end2_79, .int m_token2_85, .int m_whole2_86, .int m_nameSize2_83, .int m_fault2_81, .int m_place2_84, .int m_trouble, .ref a_letters, .int m_failed2_80, .int m_hasHouse, .ref a_r, .ref a_fresh, .ref a_st, .ref a_undone, .ref a_kept, .int m_undos, .int m_images, .ref a_from, .ref a_begin, .ref a_motor, .ref a_change, .ref a_startFrame, .ref a_changeFrame, .ref a_lostAt, .ref a_blackAt, .ref a_slips, .ref a_leftArc, .ref a_died, .ref a_arcs, .int m_bestSum, .int m_nearest, .int m_nearestTown, .ref a_there, .ref a_backAt, .ref a_sorted, .ref a_parts, .int m_seed1, .int m_darkNow])), (a_tape, .inl (g.2.2.1, 900, .inl d_tape)), (a_letters, .inl (g.2.2.1, 8, .inl d_letters2_82)), (a_fresh, .inl (g.2.2.1, 311, .inl fa_30))] rfl ?_
      refine k_pop X dX11_joinLine_48 rfl ?_
      refine k_aload_n X dX11_joinLine_49 1 rfl ?_
      refine k_get (ci := 11) X inlX11 rfl 16 (by decide) dX11_joinLine_50 mw171 0 rfl rfl ?_
      refine k_iload_n X dX11_joinLine_53 0 rfl ?_
      refine k_iconst (v := 1) X dX11_joinLine_54 (by decide) ?_
      refine k_iadd X dX11_joinLine_55 ?_
      refine k_nm (fun z_93 ez_93 => ?_)
      have i_94 : z_93.toInt = z_11.toInt + 1 := in_add ez_93 iv_13 (show IV 1 1 1 from (by decide)) (by decide) (by decide)
      have iv_95 : IV z_93 81 95 := by have := iv_13; have := (show IV 1 1 1 from (by decide)); rw [IV, i_94]; omega
      refine k_aload_n X dX11_joinLine_56 1 rfl ?_
      refine k_ldcwS (tx := "lacks") X dX11_joinLine_57 (by decide +kernel) (fun sr_96 hsr_96 => ?_)
      refine k_iconst (v := 1) X dX11_joinLine_60 (by decide) ?_
      refine k_bipush (v := 99) X dX11_joinLine_61 (by decide) ?_
      refine k_callVI (n := 3) (As := [.ref sr_96, .int 1, .int 99]) (st := [.int z_93, .ref a_fresh]) X [(h0, .inr (11, [.int m_thrown, .ref a_tape, .int m_taped, .int m_size, .int m_at2_78, .int m_end2_79, .int m_token2_85, .int m_whole2_86, .int m_nameSize2_83, .int m_fault2_81, .int m_place2_84, .int m_trouble, .ref a_letters, .int m_failed2_80, .int m_hasHouse, .ref a_r, .ref a_fresh, .ref a_st, .ref a_undone, .ref a_kept, .int m_undos, .int m_images, .ref a_from, .ref a_begin, .ref a_motor, .ref a_change, .ref a_startFrame, .ref a_changeFrame, .ref a_lostAt, .ref a_blackAt, .ref a_slips, .ref a_leftArc, .ref a_died, .ref a_arcs, .int m_bestSum, .int m_nearest, .int m_nearestTown, .ref a_there, .ref a_backAt, .ref a_sorted, .ref a_parts, .int m_seed1, .int m_darkNow])), (a_tape, .inl (g.2.2.1, 900, .inl d_tape)), (a_letters, .inl (g.2.2.1, 8, .inl d_letters2_82))] [(a_fresh, .inl (g.2.2.1, 311, .inl fa_30))] [0, 1, 2] [3] (m_after l g h0 sr_96 1 99 m_thrown a_tape m_taped m_size m_at2_78 m_end2_79 m_token2_85 m_whole2_86 m_nameSize2_83 m_fault2_81 m_place2_84 m_trouble a_letters m_failed2_80 m_hasHouse a_r a_fresh a_st a_undone a_kept m_undos m_images a_from a_begin a_motor a_change a_startFrame a_changeFrame a_lostAt a_blackAt a_slips a_leftArc a_died a_arcs m_bestSum m_nearest m_nearestTown a_there a_backAt a_sorted a_parts m_seed1 m_darkNow d_tape d_letters2_82 ("lacks") (iv_w hv_m_size (by decide) (by decide)) (iv_w iv_88 (by decide) (by decide)) (iv_w iv_90 (by decide) (by decide)) (iv_w iv_89 (by decide) (by decide)) hsr_96 hk_92) dX11_joinLine_63 mw523 mw524 mw525 mw5 mw526 rfl 11 rfl rfl 0 _ rfl (by unfold yOk; decide) rfl (Nat.le_of_ble_eq_true rfl) (Nat.le_of_ble_eq_true rfl) (Nat.le_of_ble_eq_true rfl) (Nat.le_of_ble_eq_true rfl) (Nat.le_of_ble_eq_true rfl) rfl rfl (by decide) rfl (by decide) (by decide) ?_
      rintro r_106 w ⟨m_at2_97, m_end2_98, m_failed2_99, m_fault2_100, d_letters2_101, m_nameSize2_102, m_place2_103, m_token2_104, m_whole2_105, iv_107, iv_108, iv_109, hq_110, hq_111, hk_112, rfl⟩
      refine k_ws [(a_fresh, .inl (g.2.2.1, 311, .inl fa_30)), (h0, .inr (11, [.int m_thrown, .ref a_tape, .int m_taped, .int m_size, .int m_at2_97, .int m_end2_98, .int m_token2_104, .int m_whole2_105, .int m_nameSize2_102, .int m_fault2_100, .int m_place2_103, .int m_trouble, .ref a_letters, .int m_failed2_99, .int m_hasHouse, .ref a_r, .ref a_fresh, .ref a_st, .ref a_undone, .ref a_kept, .int m_undos, .int m_images, .ref a_from, .ref a_begin, .ref a_motor, .ref a_change, .ref a_startFrame, .ref a_changeFrame, .ref a_lostAt, .ref a_blackAt, .ref a_slips, .ref a_leftArc, .ref a_died, .ref a_arcs, .int m_bestSum, .int m_nearest, .int m_nearestTown, .ref a_there, .ref a_backAt, .ref a_sorted, .ref a_parts, .int m_seed1, .int m_darkNow])), (a_tape, .inl (g.2.2.1, 900, .inl d_tape)), (a_letters, .inl (g.2.2.1, 8, .inl d_letters2_101))] rfl ?_
      have e_113 : (1 : Int32).toInt = 1 := by decide
      have e_114 : (99 : Int32).toInt = 99 := by decide
      have iv_115 : IV r_106 1 99 := by have := (show IV 1 1 1 from (by decide)); have := (show IV 99 99 99 from (by decide)); rw [IV]; omega
      refine k_iast [(a_fresh, .inl (g.2.2.1, 311, .inl (upd fa_30 (z_93 : Int32).toNatClampNeg r_106))), (h0, .inr (11, [.int m_thrown, .ref a_tape, .int m_taped, .int m_size, .int m_at2_97, .int m_end2_98, .int m_token2_104, .int m_whole2_105, .int m_nameSize2_102, .int m_fault2_100, .int m_place2_103, .int m_trouble, .ref a_letters, .int m_failed2_99, .int m_hasHouse, .ref a_r, .ref a_fresh, .ref a_st, .ref a_undone, .ref a_kept, .int m_undos, .int m_images, .ref a_from, .ref a_begin, .ref a_motor, .ref a_change, .ref a_startFrame, .ref a_changeFrame, .ref a_lostAt, .ref a_blackAt, .ref a_slips, .ref a_leftArc, .ref a_died, .ref a_arcs, .int m_bestSum, .int m_nearest, .int m_nearestTown, .ref a_there, .ref a_backAt, .ref a_sorted, .ref a_parts, .int m_seed1, .int m_darkNow])), (a_tape, .inl (g.2.2.1, 900, .inl d_tape)), (a_letters, .inl (g.2.2.1, 8, .inl d_letters2_101))] X dX11_joinLine_66 0 rfl (iv_in iv_95 (by decide) (by decide)) rfl ?_
      have i_118 : z_93.toInt = 81 + 2 * z_5.toInt := by omega
      refine (fun hg : ∀ fa_116 : Nat → Int32, RInv fa_116 → K16 fa_30 fa_116 → Wk p l e _ s m args below meth c _ A g _ _ _ [(a_fresh, .inl (g.2.2.1, 311, .inl fa_116)), (h0, .inr (11, [.int m_thrown, .ref a_tape, .int m_taped, .int m_size, .int m_at2_97, .int m_end2_98, .int m_token2_104, .int m_whole2_105, .int m_nameSize2_102, .int m_fault2_100, .int m_place2_103, .int m_trouble, .ref a_letters, .int m_failed2_99, .int m_hasHouse, .ref a_r, .ref a_fresh, .ref a_st, .ref a_undone, .ref a_kept, .int m_undos, .int m_images, .ref a_from, .ref a_begin, .ref a_motor, .ref a_change, .ref a_startFrame, .ref a_changeFrame, .ref a_lostAt, .ref a_blackAt, .ref a_slips, .ref a_leftArc, .ref a_died, .ref a_arcs, .int m_bestSum, .int m_nearest, .int m_nearestTown, .ref a_there, .ref a_backAt, .ref a_sorted, .ref a_parts, .int m_seed1, .int m_darkNow])), (a_tape, .inl (g.2.2.1, 900, .inl d_tape)), (a_letters, .inl (g.2.2.1, 8, .inl d_letters2_101))] _ _ _ => hg _ (w_fr_81_2 hR_31 i_118 (iv_w iv_7 (by decide) (by decide))) (k16_u (by have := iv_95; omega))) (fun fa_116 hR_117 hk_119 => ?_)
      have ek_120 : z_5 = fa_116 (9 : Int32).toNatClampNeg := ek_34.trans (hk_119 _ (by decide)).symm
      refine k_aload_n X dX11_joinLine_67 1 rfl ?_
      refine k_get (ci := 11) X inlX11 rfl 13 (by decide) dX11_joinLine_68 mw469 1 rfl rfl ?_
      refine k_if_ne 85 X dX11_joinLine_71 (by decide) (fun h_121 => ?_) (fun h_121 => ?_)
      · skip
        have iv_122 : IV m_failed2_99 1 1 := iv_neL h_121 iv_108 (show IV 0 0 0 from (by decide)) (by decide)
        exact k_vret X hr dX11_joinLine_85 (Nat.le_of_ble_eq_true rfl) (Nat.le_of_ble_eq_true rfl) [1, 2, 3, 0] (by decide) rfl rfl ⟨m_at2_97, m_end2_98, m_failed2_99, m_fault2_100, fa_116, d_letters2_101, m_nameSize2_102, m_place2_103, m_token2_104, m_whole2_105, (iv_w iv_107 (by decide) (by decide)), (iv_w iv_122 (by decide) (by decide)), (iv_w iv_109 (by decide) (by decide)), hR_117, (by omega), hk_112, rfl⟩
      · skip
        have iv_123 : IV m_failed2_99 0 0 := iv_meet iv_108 (iv_e h_121 (show IV 0 0 0 from (by decide))) (by decide) (by decide)
        refine k_aload_n X dX11_joinLine_74 1 rfl ?_
        refine k_get (ci := 11) X inlX11 rfl 16 (by decide) dX11_joinLine_75 mw171 1 rfl rfl ?_
        refine k_bipush (v := 9) X dX11_joinLine_78 (by decide) ?_
        refine k_dup2 X dX11_joinLine_80 rfl rfl ?_
        refine k_iald X dX11_joinLine_81 0 rfl (by unfold vp_in; decide) ?_
        refine k_to z_5 ek_120.symm ?_
        refine k_iconst (v := 1) X dX11_joinLine_82 (by decide) ?_
        refine k_iadd X dX11_joinLine_83 ?_
        refine k_nm (fun z_124 ez_124 => ?_)
        have i_125 : z_124.toInt = z_5.toInt + 1 := in_add ez_124 iv_7 (show IV 1 1 1 from (by decide)) (by decide) (by decide)
        have iv_126 : IV z_124 1 8 := by have := iv_7; have := (show IV 1 1 1 from (by decide)); rw [IV, i_125]; omega
        refine k_iast [(a_fresh, .inl (g.2.2.1, 311, .inl (upd fa_116 (9 : Int32).toNatClampNeg z_124))), (h0, .inr (11, [.int m_thrown, .ref a_tape, .int m_taped, .int m_size, .int m_at2_97, .int m_end2_98, .int m_token2_104, .int m_whole2_105, .int m_nameSize2_102, .int m_fault2_100, .int m_place2_103, .int m_trouble, .ref a_letters, .int m_failed2_99, .int m_hasHouse, .ref a_r, .ref a_fresh, .ref a_st, .ref a_undone, .ref a_kept, .int m_undos, .int m_images, .ref a_from, .ref a_begin, .ref a_motor, .ref a_change, .ref a_startFrame, .ref a_changeFrame, .ref a_lostAt, .ref a_blackAt, .ref a_slips, .ref a_leftArc, .ref a_died, .ref a_arcs, .int m_bestSum, .int m_nearest, .int m_nearestTown, .ref a_there, .ref a_backAt, .ref a_sorted, .ref a_parts, .int m_seed1, .int m_darkNow])), (a_tape, .inl (g.2.2.1, 900, .inl d_tape)), (a_letters, .inl (g.2.2.1, 8, .inl d_letters2_101))] X dX11_joinLine_84 0 rfl (by unfold vp_in; decide) rfl ?_
        refine (fun hg : ∀ fa_127 : Nat → Int32, RInv fa_127 → Wk p l e _ s m args below meth c _ A g _ _ _ [(a_fresh, .inl (g.2.2.1, 311, .inl fa_127)), (h0, .inr (11, [.int m_thrown, .ref a_tape, .int m_taped, .int m_size, .int m_at2_97, .int m_end2_98, .int m_token2_104, .int m_whole2_105, .int m_nameSize2_102, .int m_fault2_100, .int m_place2_103, .int m_trouble, .ref a_letters, .int m_failed2_99, .int m_hasHouse, .ref a_r, .ref a_fresh, .ref a_st, .ref a_undone, .ref a_kept, .int m_undos, .int m_images, .ref a_from, .ref a_begin, .ref a_motor, .ref a_change, .ref a_startFrame, .ref a_changeFrame, .ref a_lostAt, .ref a_blackAt, .ref a_slips, .ref a_leftArc, .ref a_died, .ref a_arcs, .int m_bestSum, .int m_nearest, .int m_nearestTown, .ref a_there, .ref a_backAt, .ref a_sorted, .ref a_parts, .int m_seed1, .int m_darkNow])), (a_tape, .inl (g.2.2.1, 900, .inl d_tape)), (a_letters, .inl (g.2.2.1, 8, .inl d_letters2_101))] _ _ _ => hg _ (w_rb_9 hR_117 (iv_w iv_126 (by decide) (by decide)))) (fun fa_127 hR_128 => ?_)
        exact k_vret X hr dX11_joinLine_85 (Nat.le_of_ble_eq_true rfl) (Nat.le_of_ble_eq_true rfl) [1, 2, 3, 0] (by decide) rfl rfl ⟨m_at2_97, m_end2_98, m_failed2_99, m_fault2_100, fa_127, d_letters2_101, m_nameSize2_102, m_place2_103, m_token2_104, m_whole2_105, (iv_w iv_107 (by decide) (by decide)), (iv_w iv_123 (by decide) (by decide)), (iv_w iv_109 (by decide) (by decide)), hR_128, (by omega), hk_112, rfl⟩
  · skip
    have iv_130 : IV m_failed 1 1 := iv_neL h_1 hv_m_failed (show IV 0 0 0 from (by decide)) (by decide)
    exact k_vret X hr dX11_joinLine_7 (Nat.le_of_ble_eq_true rfl) (Nat.le_of_ble_eq_true rfl) [0, 1, 2, 3] (by decide) rfl rfl ⟨m_at, m_end, m_failed, m_fault, d_fresh, d_letters, m_nameSize, m_place, m_token, m_whole, (iv_w hv_m_end (by decide) (by decide)), (iv_w iv_130 (by decide) (by decide)), (iv_w hv_m_nameSize (by decide) (by decide)), hp_d_fresh, (by omega), hc_1, rfl⟩

theorem dX11_weakLine_0 : decode cX11_weakLine 0 = .ok (.aload_n 0, 1) := by decide +kernel
theorem dX11_weakLine_1 : decode cX11_weakLine 1 = .ok (.getfield 121, 3) := by decide +kernel
theorem dX11_weakLine_4 : decode cX11_weakLine 4 = .ok (.ifCond .eq 4, 3) := by decide +kernel
theorem dX11_weakLine_7 : decode cX11_weakLine 7 = .ok (.return_, 1) := by decide +kernel
theorem dX11_weakLine_8 : decode cX11_weakLine 8 = .ok (.bipush 96, 2) := by decide +kernel
theorem dX11_weakLine_10 : decode cX11_weakLine 10 = .ok (.iconst 3, 1) := by decide +kernel
theorem dX11_weakLine_11 : decode cX11_weakLine 11 = .ok (.aload_n 0, 1) := by decide +kernel
theorem dX11_weakLine_12 : decode cX11_weakLine 12 = .ok (.getfield 23, 3) := by decide +kernel
theorem dX11_weakLine_15 : decode cX11_weakLine 15 = .ok (.bipush 10, 2) := by decide +kernel
theorem dX11_weakLine_17 : decode cX11_weakLine 17 = .ok (.iaload, 1) := by decide +kernel
theorem dX11_weakLine_18 : decode cX11_weakLine 18 = .ok (.imul, 1) := by decide +kernel
theorem dX11_weakLine_19 : decode cX11_weakLine 19 = .ok (.iadd, 1) := by decide +kernel
theorem dX11_weakLine_20 : decode cX11_weakLine 20 = .ok (.istore_n 1, 1) := by decide +kernel
theorem dX11_weakLine_21 : decode cX11_weakLine 21 = .ok (.aload_n 0, 1) := by decide +kernel
theorem dX11_weakLine_22 : decode cX11_weakLine 22 = .ok (.invokevirtual 288, 3) := by decide +kernel
theorem dX11_weakLine_25 : decode cX11_weakLine 25 = .ok (.istore_n 2, 1) := by decide +kernel
theorem dX11_weakLine_26 : decode cX11_weakLine 26 = .ok (.aload_n 0, 1) := by decide +kernel
theorem dX11_weakLine_27 : decode cX11_weakLine 27 = .ok (.getfield 121, 3) := by decide +kernel
theorem dX11_weakLine_30 : decode cX11_weakLine 30 = .ok (.ifCond .eq 7, 3) := by decide +kernel
theorem dX11_weakLine_33 : decode cX11_weakLine 33 = .ok (.iconst 0, 1) := by decide +kernel
theorem dX11_weakLine_34 : decode cX11_weakLine 34 = .ok (.goto 21, 3) := by decide +kernel
theorem dX11_weakLine_37 : decode cX11_weakLine 37 = .ok (.aload_n 0, 1) := by decide +kernel
theorem dX11_weakLine_38 : decode cX11_weakLine 38 = .ok (.iconst 0, 1) := by decide +kernel
theorem dX11_weakLine_39 : decode cX11_weakLine 39 = .ok (.aload_n 0, 1) := by decide +kernel
theorem dX11_weakLine_40 : decode cX11_weakLine 40 = .ok (.getfield 23, 3) := by decide +kernel
theorem dX11_weakLine_43 : decode cX11_weakLine 43 = .ok (.bipush 16, 2) := by decide +kernel
theorem dX11_weakLine_45 : decode cX11_weakLine 45 = .ok (.iconst 3, 1) := by decide +kernel
theorem dX11_weakLine_46 : decode cX11_weakLine 46 = .ok (.iload_n 2, 1) := by decide +kernel
theorem dX11_weakLine_47 : decode cX11_weakLine 47 = .ok (.imul, 1) := by decide +kernel
theorem dX11_weakLine_48 : decode cX11_weakLine 48 = .ok (.iadd, 1) := by decide +kernel
theorem dX11_weakLine_49 : decode cX11_weakLine 49 = .ok (.iaload, 1) := by decide +kernel
theorem dX11_weakLine_50 : decode cX11_weakLine 50 = .ok (.iconst 1, 1) := by decide +kernel
theorem dX11_weakLine_51 : decode cX11_weakLine 51 = .ok (.isub, 1) := by decide +kernel
theorem dX11_weakLine_52 : decode cX11_weakLine 52 = .ok (.invokevirtual 190, 3) := by decide +kernel
theorem dX11_weakLine_55 : decode cX11_weakLine 55 = .ok (.istore_n 3, 1) := by decide +kernel
theorem dX11_weakLine_56 : decode cX11_weakLine 56 = .ok (.iconst 0, 1) := by decide +kernel
theorem dX11_weakLine_57 : decode cX11_weakLine 57 = .ok (.istore 4, 2) := by decide +kernel
theorem dX11_weakLine_59 : decode cX11_weakLine 59 = .ok (.iload 4, 2) := by decide +kernel
theorem dX11_weakLine_61 : decode cX11_weakLine 61 = .ok (.aload_n 0, 1) := by decide +kernel
theorem dX11_weakLine_62 : decode cX11_weakLine 62 = .ok (.getfield 23, 3) := by decide +kernel
theorem dX11_weakLine_65 : decode cX11_weakLine 65 = .ok (.bipush 10, 2) := by decide +kernel
theorem dX11_weakLine_67 : decode cX11_weakLine 67 = .ok (.iaload, 1) := by decide +kernel
theorem dX11_weakLine_68 : decode cX11_weakLine 68 = .ok (.if_icmp .ge 59, 3) := by decide +kernel
theorem dX11_weakLine_71 : decode cX11_weakLine 71 = .ok (.aload_n 0, 1) := by decide +kernel
theorem dX11_weakLine_72 : decode cX11_weakLine 72 = .ok (.getfield 121, 3) := by decide +kernel
theorem dX11_weakLine_75 : decode cX11_weakLine 75 = .ok (.ifCond .ne 46, 3) := by decide +kernel
theorem dX11_weakLine_78 : decode cX11_weakLine 78 = .ok (.aload_n 0, 1) := by decide +kernel
theorem dX11_weakLine_79 : decode cX11_weakLine 79 = .ok (.getfield 23, 3) := by decide +kernel
theorem dX11_weakLine_82 : decode cX11_weakLine 82 = .ok (.bipush 96, 2) := by decide +kernel
theorem dX11_weakLine_84 : decode cX11_weakLine 84 = .ok (.iconst 3, 1) := by decide +kernel
theorem dX11_weakLine_85 : decode cX11_weakLine 85 = .ok (.iload 4, 2) := by decide +kernel
theorem dX11_weakLine_87 : decode cX11_weakLine 87 = .ok (.imul, 1) := by decide +kernel
theorem dX11_weakLine_88 : decode cX11_weakLine 88 = .ok (.iadd, 1) := by decide +kernel
theorem dX11_weakLine_89 : decode cX11_weakLine 89 = .ok (.iaload, 1) := by decide +kernel
theorem dX11_weakLine_90 : decode cX11_weakLine 90 = .ok (.iload_n 2, 1) := by decide +kernel
theorem dX11_weakLine_91 : decode cX11_weakLine 91 = .ok (.if_icmp .ne 30, 3) := by decide +kernel
theorem dX11_weakLine_94 : decode cX11_weakLine 94 = .ok (.aload_n 0, 1) := by decide +kernel
theorem dX11_weakLine_95 : decode cX11_weakLine 95 = .ok (.getfield 23, 3) := by decide +kernel
theorem dX11_weakLine_98 : decode cX11_weakLine 98 = .ok (.bipush 96, 2) := by decide +kernel
theorem dX11_weakLine_100 : decode cX11_weakLine 100 = .ok (.iconst 3, 1) := by decide +kernel
theorem dX11_weakLine_101 : decode cX11_weakLine 101 = .ok (.iload 4, 2) := by decide +kernel
theorem dX11_weakLine_103 : decode cX11_weakLine 103 = .ok (.imul, 1) := by decide +kernel
theorem dX11_weakLine_104 : decode cX11_weakLine 104 = .ok (.iadd, 1) := by decide +kernel
theorem dX11_weakLine_105 : decode cX11_weakLine 105 = .ok (.iconst 1, 1) := by decide +kernel
theorem dX11_weakLine_106 : decode cX11_weakLine 106 = .ok (.iadd, 1) := by decide +kernel
theorem dX11_weakLine_107 : decode cX11_weakLine 107 = .ok (.iaload, 1) := by decide +kernel
theorem dX11_weakLine_108 : decode cX11_weakLine 108 = .ok (.iload_n 3, 1) := by decide +kernel
theorem dX11_weakLine_109 : decode cX11_weakLine 109 = .ok (.if_icmp .ne 12, 3) := by decide +kernel
theorem dX11_weakLine_112 : decode cX11_weakLine 112 = .ok (.aload_n 0, 1) := by decide +kernel
theorem dX11_weakLine_113 : decode cX11_weakLine 113 = .ok (.iconst 3, 1) := by decide +kernel
theorem dX11_weakLine_114 : decode cX11_weakLine 114 = .ok (.aload_n 0, 1) := by decide +kernel
theorem dX11_weakLine_115 : decode cX11_weakLine 115 = .ok (.getfield 102, 3) := by decide +kernel
theorem dX11_weakLine_118 : decode cX11_weakLine 118 = .ok (.invokevirtual 148, 3) := by decide +kernel
theorem dX11_weakLine_121 : decode cX11_weakLine 121 = .ok (.iinc 4 1, 3) := by decide +kernel
theorem dX11_weakLine_124 : decode cX11_weakLine 124 = .ok (.goto (-65), 3) := by decide +kernel
theorem dX11_weakLine_127 : decode cX11_weakLine 127 = .ok (.aload_n 0, 1) := by decide +kernel
theorem dX11_weakLine_128 : decode cX11_weakLine 128 = .ok (.getfield 121, 3) := by decide +kernel
theorem dX11_weakLine_131 : decode cX11_weakLine 131 = .ok (.ifCond .eq 4, 3) := by decide +kernel
theorem dX11_weakLine_134 : decode cX11_weakLine 134 = .ok (.return_, 1) := by decide +kernel
theorem dX11_weakLine_135 : decode cX11_weakLine 135 = .ok (.aload_n 0, 1) := by decide +kernel
theorem dX11_weakLine_136 : decode cX11_weakLine 136 = .ok (.invokevirtual 142, 3) := by decide +kernel
theorem dX11_weakLine_139 : decode cX11_weakLine 139 = .ok (.aload_n 0, 1) := by decide +kernel
theorem dX11_weakLine_140 : decode cX11_weakLine 140 = .ok (.getfield 23, 3) := by decide +kernel
theorem dX11_weakLine_143 : decode cX11_weakLine 143 = .ok (.iload_n 1, 1) := by decide +kernel
theorem dX11_weakLine_144 : decode cX11_weakLine 144 = .ok (.iload_n 2, 1) := by decide +kernel
theorem dX11_weakLine_145 : decode cX11_weakLine 145 = .ok (.iastore, 1) := by decide +kernel
theorem dX11_weakLine_146 : decode cX11_weakLine 146 = .ok (.aload_n 0, 1) := by decide +kernel
theorem dX11_weakLine_147 : decode cX11_weakLine 147 = .ok (.getfield 23, 3) := by decide +kernel
theorem dX11_weakLine_150 : decode cX11_weakLine 150 = .ok (.iload_n 1, 1) := by decide +kernel
theorem dX11_weakLine_151 : decode cX11_weakLine 151 = .ok (.iconst 1, 1) := by decide +kernel
theorem dX11_weakLine_152 : decode cX11_weakLine 152 = .ok (.iadd, 1) := by decide +kernel
theorem dX11_weakLine_153 : decode cX11_weakLine 153 = .ok (.iload_n 3, 1) := by decide +kernel
theorem dX11_weakLine_154 : decode cX11_weakLine 154 = .ok (.iastore, 1) := by decide +kernel
theorem dX11_weakLine_155 : decode cX11_weakLine 155 = .ok (.aload_n 0, 1) := by decide +kernel
theorem dX11_weakLine_156 : decode cX11_weakLine 156 = .ok (.getfield 23, 3) := by decide +kernel
theorem dX11_weakLine_159 : decode cX11_weakLine 159 = .ok (.iload_n 1, 1) := by decide +kernel
theorem dX11_weakLine_160 : decode cX11_weakLine 160 = .ok (.iconst 2, 1) := by decide +kernel
theorem dX11_weakLine_161 : decode cX11_weakLine 161 = .ok (.iadd, 1) := by decide +kernel
theorem dX11_weakLine_162 : decode cX11_weakLine 162 = .ok (.aload_n 0, 1) := by decide +kernel
theorem dX11_weakLine_163 : decode cX11_weakLine 163 = .ok (.ldc_w 296, 3) := by decide +kernel
theorem dX11_weakLine_166 : decode cX11_weakLine 166 = .ok (.iconst 1, 1) := by decide +kernel
theorem dX11_weakLine_167 : decode cX11_weakLine 167 = .ok (.bipush 99, 2) := by decide +kernel
theorem dX11_weakLine_169 : decode cX11_weakLine 169 = .ok (.invokevirtual 264, 3) := by decide +kernel
theorem dX11_weakLine_172 : decode cX11_weakLine 172 = .ok (.iastore, 1) := by decide +kernel
theorem dX11_weakLine_173 : decode cX11_weakLine 173 = .ok (.aload_n 0, 1) := by decide +kernel
theorem dX11_weakLine_174 : decode cX11_weakLine 174 = .ok (.getfield 121, 3) := by decide +kernel
theorem dX11_weakLine_177 : decode cX11_weakLine 177 = .ok (.ifCond .ne 14, 3) := by decide +kernel
theorem dX11_weakLine_180 : decode cX11_weakLine 180 = .ok (.aload_n 0, 1) := by decide +kernel
theorem dX11_weakLine_181 : decode cX11_weakLine 181 = .ok (.getfield 23, 3) := by decide +kernel
theorem dX11_weakLine_184 : decode cX11_weakLine 184 = .ok (.bipush 10, 2) := by decide +kernel
theorem dX11_weakLine_186 : decode cX11_weakLine 186 = .ok (.dup2, 1) := by decide +kernel
theorem dX11_weakLine_187 : decode cX11_weakLine 187 = .ok (.iaload, 1) := by decide +kernel
theorem dX11_weakLine_188 : decode cX11_weakLine 188 = .ok (.iconst 1, 1) := by decide +kernel
theorem dX11_weakLine_189 : decode cX11_weakLine 189 = .ok (.iadd, 1) := by decide +kernel
theorem dX11_weakLine_190 : decode cX11_weakLine 190 = .ok (.iastore, 1) := by decide +kernel
theorem dX11_weakLine_191 : decode cX11_weakLine 191 = .ok (.return_, 1) := by decide +kernel
set_option maxHeartbeats 4000000 in
set_option maxRecDepth 100000 in
theorem m_weakLine (l : Launch) (g : Gx) (h0 : Nat) (m_thrown : Int32) (a_tape : Nat) (m_taped : Int32) (m_size : Int32) (m_at : Int32) (m_end : Int32) (m_token : Int32) (m_whole : Int32) (m_nameSize : Int32) (m_fault : Int32) (m_place : Int32) (m_trouble : Int32) (a_letters : Nat) (m_failed : Int32) (m_hasHouse : Int32) (a_r : Nat) (a_fresh : Nat) (a_st : Nat) (a_undone : Nat) (a_kept : Nat) (m_undos : Int32) (m_images : Int32) (a_from : Nat) (a_begin : Nat) (a_motor : Nat) (a_change : Nat) (a_startFrame : Nat) (a_changeFrame : Nat) (a_lostAt : Nat) (a_blackAt : Nat) (a_slips : Nat) (a_leftArc : Nat) (a_died : Nat) (a_arcs : Nat) (m_bestSum : Int32) (m_nearest : Int32) (m_nearestTown : Int32) (a_there : Nat) (a_backAt : Nat) (a_sorted : Nat) (a_parts : Nat) (m_seed1 : Int32) (m_darkNow : Int32) (d_tape : Nat → Int32) (d_letters : Nat → Int32) (d_fresh : Nat → Int32) (hv_m_size : IV m_size 0 900) (hv_m_end : IV m_end 0 900) (hv_m_nameSize : IV m_nameSize 0 900) (hv_m_failed : IV m_failed 0 1) (hp_d_fresh : RInv d_fresh) (hc_0 : m_failed = 1 ∨ ((d_fresh 10).toInt ≤ 5)) (hc_1 : m_token = 2 → IV m_nameSize 0 8) : cV l g yX11_weakLine cX11_weakLine 5 8 173 0 0 [.ref h0] [(h0, .inr (11, [.int m_thrown, .ref a_tape, .int m_taped, .int m_size, .int m_at, .int m_end, .int m_token, .int m_whole, .int m_nameSize, .int m_fault, .int m_place, .int m_trouble, .ref a_letters, .int m_failed, .int m_hasHouse, .ref a_r, .ref a_fresh, .ref a_st, .ref a_undone, .ref a_kept, .int m_undos, .int m_images, .ref a_from, .ref a_begin, .ref a_motor, .ref a_change, .ref a_startFrame, .ref a_changeFrame, .ref a_lostAt, .ref a_blackAt, .ref a_slips, .ref a_leftArc, .ref a_died, .ref a_arcs, .int m_bestSum, .int m_nearest, .int m_nearestTown, .ref a_there, .ref a_backAt, .ref a_sorted, .ref a_parts, .int m_seed1, .int m_darkNow])), (a_tape, .inl (g.2.2.1, 900, .inl d_tape)), (a_letters, .inl (g.2.2.1, 8, .inl d_letters)), (a_fresh, .inl (g.2.2.1, 311, .inl d_fresh))] (fun w => ∃ (m_at2 : Int32) (m_end2 : Int32) (m_failed2 : Int32) (m_fault2 : Int32) (d_fresh2 : Nat → Int32) (d_letters2 : Nat → Int32) (m_nameSize2 : Int32) (m_place2 : Int32) (m_token2 : Int32) (m_whole2 : Int32), IV m_end2 0 900 ∧ IV m_failed2 0 1 ∧ IV m_nameSize2 0 900 ∧ RInv d_fresh2 ∧ (m_end.toInt ≤ m_end2.toInt) ∧ (m_token2 = 2 → IV m_nameSize2 0 8) ∧ w = [(h0, .inr (11, [.int m_thrown, .ref a_tape, .int m_taped, .int m_size, .int m_at2, .int m_end2, .int m_token2, .int m_whole2, .int m_nameSize2, .int m_fault2, .int m_place2, .int m_trouble, .ref a_letters, .int m_failed2, .int m_hasHouse, .ref a_r, .ref a_fresh, .ref a_st, .ref a_undone, .ref a_kept, .int m_undos, .int m_images, .ref a_from, .ref a_begin, .ref a_motor, .ref a_change, .ref a_startFrame, .ref a_changeFrame, .ref a_lostAt, .ref a_blackAt, .ref a_slips, .ref a_leftArc, .ref a_died, .ref a_arcs, .int m_bestSum, .int m_nearest, .int m_nearestTown, .ref a_there, .ref a_backAt, .ref a_sorted, .ref a_parts, .int m_seed1, .int m_darkNow])), (a_tape, .inl (g.2.2.1, 900, .inl d_tape)), (a_letters, .inl (g.2.2.1, 8, .inl d_letters2)), (a_fresh, .inl (g.2.2.1, 311, .inl d_fresh2))]) := by
  refine cV.of (by decide) (Nat.le_of_ble_eq_true rfl) ?_
  intro p e s m args below meth c A X hr hi
  refine k_lveq [(0, .ref h0)] rfl ?_
  refine k_aload_n X dX11_weakLine_0 0 rfl ?_
  refine k_get (ci := 11) X inlX11 rfl 13 (by decide) dX11_weakLine_1 mw469 0 rfl rfl ?_
  refine k_if_eq 8 X dX11_weakLine_4 (by decide) (fun h_1 => ?_) (fun h_1 => ?_)
  · skip
    have iv_2 : IV m_failed 0 0 := iv_meet hv_m_failed (iv_e h_1 (show IV 0 0 0 from (by decide))) (by decide) (by decide)
    have hc_3 := hc_0.resolve_left (fun q => iv_eqN q iv_2 (show IV 1 1 1 from (by decide)) (by decide))
    have j_4 : (d_fresh 10).toInt ≤ 5 := hc_3
    refine k_bipush (v := 96) X dX11_weakLine_8 (by decide) ?_
    refine k_iconst (v := 3) X dX11_weakLine_10 (by decide) ?_
    refine k_aload_n X dX11_weakLine_11 0 rfl ?_
    refine k_get (ci := 11) X inlX11 rfl 16 (by decide) dX11_weakLine_12 mw171 0 rfl rfl ?_
    refine k_bipush (v := 10) X dX11_weakLine_15 (by decide) ?_
    refine k_iald X dX11_weakLine_17 3 rfl (by unfold vp_in; decide) ?_
    refine k_nm (fun z_5 ez_5 => ?_)
    have i_6 : z_5.toInt = (d_fresh 10).toInt := by rw [ez_5]; rfl
    have iv_7 : IV z_5 0 5 := by have := rb_10 ez_5 hp_d_fresh; rw [IV]; omega
    refine k_imul X dX11_weakLine_18 ?_
    refine k_nm (fun z_8 ez_8 => ?_)
    have i_9 : z_8.toInt = 3 * z_5.toInt := in_mul ez_8 (by decide) (by decide) iv_7 (by decide) (by decide)
    have iv_10 : IV z_8 0 15 := by have := (show IV 3 3 3 from (by decide)); have := iv_7; rw [IV, i_9]; omega
    refine k_iadd X dX11_weakLine_19 ?_
    refine k_nm (fun z_11 ez_11 => ?_)
    have i_12 : z_11.toInt = 96 + z_8.toInt := in_add ez_11 (show IV 96 96 96 from (by decide)) iv_10 (by decide) (by decide)
    have iv_13 : IV z_11 96 111 := by have := (show IV 96 96 96 from (by decide)); have := iv_10; rw [IV, i_12]; omega
    refine k_istore_n [(1, .int z_11), (0, .ref h0)] X dX11_weakLine_20 (by decide) rfl ?_
    refine k_aload_n X dX11_weakLine_21 1 rfl ?_
    refine k_callVI (n := 0) (As := []) (st := []) X [(h0, .inr (11, [.int m_thrown, .ref a_tape, .int m_taped, .int m_size, .int m_at, .int m_end, .int m_token, .int m_whole, .int m_nameSize, .int m_fault, .int m_place, .int m_trouble, .ref a_letters, .int m_failed, .int m_hasHouse, .ref a_r, .ref a_fresh, .ref a_st, .ref a_undone, .ref a_kept, .int m_undos, .int m_images, .ref a_from, .ref a_begin, .ref a_motor, .ref a_change, .ref a_startFrame, .ref a_changeFrame, .ref a_lostAt, .ref a_blackAt, .ref a_slips, .ref a_leftArc, .ref a_died, .ref a_arcs, .int m_bestSum, .int m_nearest, .int m_nearestTown, .ref a_there, .ref a_backAt, .ref a_sorted, .ref a_parts, .int m_seed1, .int m_darkNow])), (a_tape, .inl (g.2.2.1, 900, .inl d_tape)), (a_letters, .inl (g.2.2.1, 8, .inl d_letters)), (a_fresh, .inl (g.2.2.1, 311, .inl d_fresh))] [] [0, 1, 2, 3] [] (m_reelPassed l g h0 m_thrown a_tape m_taped m_size m_at m_end m_token m_whole m_nameSize m_fault m_place m_trouble a_letters m_failed m_hasHouse a_r a_fresh a_st a_undone a_kept m_undos m_images a_from a_begin a_motor a_change a_startFrame a_changeFrame a_lostAt a_blackAt a_slips a_leftArc a_died a_arcs m_bestSum m_nearest m_nearestTown a_there a_backAt a_sorted a_parts m_seed1 m_darkNow d_tape d_letters d_fresh (iv_w hv_m_size (by decide) (by decide)) (iv_w hv_m_end (by decide) (by decide)) (iv_w hv_m_nameSize (by decide) (by decide)) (iv_w iv_2 (by decide) (by decide)) hp_d_fresh hc_1) dX11_weakLine_22 mw571 mw572 mw573 mw5 mw574 rfl 11 rfl rfl 0 _ rfl (by unfold yOk; decide) rfl (Nat.le_of_ble_eq_true rfl) (Nat.le_of_ble_eq_true rfl) (Nat.le_of_ble_eq_true rfl) (Nat.le_of_ble_eq_true rfl) (Nat.le_of_ble_eq_true rfl) rfl rfl (by decide) rfl (by decide) (by decide) ?_
    rintro r_23 w ⟨m_at2_14, m_end2_15, m_failed2_16, m_fault2_17, d_letters2_18, m_nameSize2_19, m_place2_20, m_token2_21, m_whole2_22, iv_24, iv_25, iv_26, iv_27, hq_28, hk_29, rfl⟩
    refine k_ws [(h0, .inr (11, [.int m_thrown, .ref a_tape, .int m_taped, .int m_size, .int m_at2_14, .int m_end2_15, .int m_token2_21, .int m_whole2_22, .int m_nameSize2_19, .int m_fault2_17, .int m_place2_20, .int m_trouble, .ref a_letters, .int m_failed2_16, .int m_hasHouse, .ref a_r, .ref a_fresh, .ref a_st, .ref a_undone, .ref a_kept, .int m_undos, .int m_images, .ref a_from, .ref a_begin, .ref a_motor, .ref a_change, .ref a_startFrame, .ref a_changeFrame, .ref a_lostAt, .ref a_blackAt, .ref a_slips, .ref a_leftArc, .ref a_died, .ref a_arcs, .int m_bestSum, .int m_nearest, .int m_nearestTown, .ref a_there, .ref a_backAt, .ref a_sorted, .ref a_parts, .int m_seed1, .int m_darkNow])), (a_tape, .inl (g.2.2.1, 900, .inl d_tape)), (a_letters, .inl (g.2.2.1, 8, .inl d_letters2_18)), (a_fresh, .inl (g.2.2.1, 311, .inl d_fresh))] rfl ?_
    refine k_istore_n [(2, .int r_23), (1, .int z_11), (0, .ref h0)] X dX11_weakLine_25 (by decide) rfl ?_
    refine k_aload_n X dX11_weakLine_26 2 rfl ?_
    refine k_get (ci := 11) X inlX11 rfl 13 (by decide) dX11_weakLine_27 mw469 0 rfl rfl ?_
    refine k_if_eq 37 X dX11_weakLine_30 (by decide) (fun h_30 => ?_) (fun h_30 => ?_)
    · skip
      have iv_31 : IV m_failed2_16 0 0 := iv_meet iv_25 (iv_e h_30 (show IV 0 0 0 from (by decide))) (by decide) (by decide)
      refine k_aload_n X dX11_weakLine_37 2 rfl ?_
      refine k_iconst (v := 0) X dX11_weakLine_38 (by decide) ?_
      refine k_aload_n X dX11_weakLine_39 2 rfl ?_
      refine k_get (ci := 11) X inlX11 rfl 16 (by decide) dX11_weakLine_40 mw171 0 rfl rfl ?_
      refine k_bipush (v := 16) X dX11_weakLine_43 (by decide) ?_
      refine k_iconst (v := 3) X dX11_weakLine_45 (by decide) ?_
      refine k_iload_n X dX11_weakLine_46 0 rfl ?_
      refine k_imul X dX11_weakLine_47 ?_
      refine k_nm (fun z_32 ez_32 => ?_)
      have i_33 : z_32.toInt = 3 * r_23.toInt := in_mul ez_32 (by decide) (by decide) iv_27 (by decide) (by decide)
      have iv_34 : IV z_32 0 21 := by have := (show IV 3 3 3 from (by decide)); have := iv_27; rw [IV, i_33]; omega
      refine k_iadd X dX11_weakLine_48 ?_
      refine k_nm (fun z_35 ez_35 => ?_)
      have i_36 : z_35.toInt = 16 + z_32.toInt := in_add ez_35 (show IV 16 16 16 from (by decide)) iv_34 (by decide) (by decide)
      have iv_37 : IV z_35 16 37 := by have := (show IV 16 16 16 from (by decide)); have := iv_34; rw [IV, i_36]; omega
      refine k_iald X dX11_weakLine_49 3 rfl (iv_in iv_37 (by decide) (by decide)) ?_
      refine k_nm (fun z_38 ez_38 => ?_)
      refine k_iconst (v := 1) X dX11_weakLine_50 (by decide) ?_
      refine k_isub X dX11_weakLine_51 ?_
      refine k_nm (fun z_39 ez_39 => ?_)
      refine k_callVI (n := 2) (As := [.int 0, .int z_39]) (st := []) X [(h0, .inr (11, [.int m_thrown, .ref a_tape, .int m_taped, .int m_size, .int m_at2_14, .int m_end2_15, .int m_token2_21, .int m_whole2_22, .int m_nameSize2_19, .int m_fault2_17, .int m_place2_20, .int m_trouble, .ref a_letters, .int m_failed2_16, .int m_hasHouse, .ref a_r, .ref a_fresh, .ref a_st, .ref a_undone, .ref a_kept, .int m_undos, .int m_images, .ref a_from, .ref a_begin, .ref a_motor, .ref a_change, .ref a_startFrame, .ref a_changeFrame, .ref a_lostAt, .ref a_blackAt, .ref a_slips, .ref a_leftArc, .ref a_died, .ref a_arcs, .int m_bestSum, .int m_nearest, .int m_nearestTown, .ref a_there, .ref a_backAt, .ref a_sorted, .ref a_parts, .int m_seed1, .int m_darkNow]))] [(a_tape, .inl (g.2.2.1, 900, .inl d_tape)), (a_letters, .inl (g.2.2.1, 8, .inl d_letters2_18)), (a_fresh, .inl (g.2.2.1, 311, .inl d_fresh))] [0] [1, 2, 3] (m_numberHere l g h0 0 z_39 m_thrown a_tape m_taped m_size m_at2_14 m_end2_15 m_token2_21 m_whole2_22 m_nameSize2_19 m_fault2_17 m_place2_20 m_trouble a_letters m_failed2_16 m_hasHouse a_r a_fresh a_st a_undone a_kept m_undos m_images a_from a_begin a_motor a_change a_startFrame a_changeFrame a_lostAt a_blackAt a_slips a_leftArc a_died a_arcs m_bestSum m_nearest m_nearestTown a_there a_backAt a_sorted a_parts m_seed1 m_darkNow (iv_w iv_31 (by decide) (by decide))) dX11_weakLine_52 mw539 mw540 mw541 mw5 mw542 rfl 11 rfl rfl 0 _ rfl (by unfold yOk; decide) rfl (Nat.le_of_ble_eq_true rfl) (Nat.le_of_ble_eq_true rfl) (Nat.le_of_ble_eq_true rfl) (Nat.le_of_ble_eq_true rfl) (Nat.le_of_ble_eq_true rfl) rfl rfl (by decide) rfl (by decide) (by decide) ?_
      rintro r_44 w ⟨m_failed2_41, m_fault2_42, m_place2_43, iv_45, hq_46, rfl⟩
      refine k_ws [(a_tape, .inl (g.2.2.1, 900, .inl d_tape)), (a_letters, .inl (g.2.2.1, 8, .inl d_letters2_18)), (a_fresh, .inl (g.2.2.1, 311, .inl d_fresh)), (h0, .inr (11, [.int m_thrown, .ref a_tape, .int m_taped, .int m_size, .int m_at2_14, .int m_end2_15, .int m_token2_21, .int m_whole2_22, .int m_nameSize2_19, .int m_fault2_42, .int m_place2_43, .int m_trouble, .ref a_letters, .int m_failed2_41, .int m_hasHouse, .ref a_r, .ref a_fresh, .ref a_st, .ref a_undone, .ref a_kept, .int m_undos, .int m_images, .ref a_from, .ref a_begin, .ref a_motor, .ref a_change, .ref a_startFrame, .ref a_changeFrame, .ref a_lostAt, .ref a_blackAt, .ref a_slips, .ref a_leftArc, .ref a_died, .ref a_arcs, .int m_bestSum, .int m_nearest, .int m_nearestTown, .ref a_there, .ref a_backAt, .ref a_sorted, .ref a_parts, .int m_seed1, .int m_darkNow]))] rfl ?_
      have e_47 : (0 : Int32).toInt = 0 := by decide
      have iv_48 : IV r_44 0 2147483647 := by have := (show IV 0 0 0 from (by decide)); have := (iv_any z_39); rw [IV]; omega
      refine k_istore_n [(3, .int r_44), (2, .int r_23), (1, .int z_11), (0, .ref h0)] X dX11_weakLine_55 (by decide) rfl ?_
      refine k_iconst (v := 0) X dX11_weakLine_56 (by decide) ?_
      refine k_istore [(4, .int 0), (3, .int r_44), (2, .int r_23), (1, .int z_11), (0, .ref h0)] X dX11_weakLine_57 (by decide) rfl ?_
      refine (fun hL : ∀ (nn_55 : Nat) (u_49 : Int32) (u_51 : Int32) (u_52 : Int32) (u_54 : Int32), (z_5.toInt - u_49.toInt).toNat = nn_55 → (IV u_49 0 8) → (IV u_52 0 1) → Wk p l e _ s m args below meth c _ A g _ _ _ [(a_tape, .inl (g.2.2.1, 900, .inl d_tape)), (a_letters, .inl (g.2.2.1, 8, .inl d_letters2_18)), (a_fresh, .inl (g.2.2.1, 311, .inl d_fresh)), (h0, .inr (11, [.int m_thrown, .ref a_tape, .int m_taped, .int m_size, .int m_at2_14, .int m_end2_15, .int m_token2_21, .int m_whole2_22, .int m_nameSize2_19, .int u_54, .int u_51, .int m_trouble, .ref a_letters, .int u_52, .int m_hasHouse, .ref a_r, .ref a_fresh, .ref a_st, .ref a_undone, .ref a_kept, .int m_undos, .int m_images, .ref a_from, .ref a_begin, .ref a_motor, .ref a_change, .ref a_startFrame, .ref a_changeFrame, .ref a_lostAt, .ref a_blackAt, .ref a_slips, .ref a_leftArc, .ref a_died, .ref a_arcs, .int m_bestSum, .int m_nearest, .int m_nearestTown, .ref a_there, .ref a_backAt, .ref a_sorted, .ref a_parts, .int m_seed1, .int m_darkNow]))] [(4, .int u_49), (3, .int r_44), (2, .int r_23), (1, .int z_11), (0, .ref h0)] 59 [] => hL _ 0 m_place2_43 m_failed2_41 m_fault2_42 rfl (iv_w (show IV 0 0 0 from (by decide)) (by decide) (by decide)) (iv_w iv_45 (by decide) (by decide))) ?_
      refine fun nn_55 => Nat.strongRecOn nn_55 (fun nn_55 ih_57 => ?_)
      intro u_49 u_51 u_52 u_54 hm_56 hv_50 hv_53
      refine k_iload X dX11_weakLine_59 0 rfl ?_
      refine k_aload_n X dX11_weakLine_61 4 rfl ?_
      refine k_get (ci := 11) X inlX11 rfl 16 (by decide) dX11_weakLine_62 mw171 3 rfl rfl ?_
      refine k_bipush (v := 10) X dX11_weakLine_65 (by decide) ?_
      refine k_iald X dX11_weakLine_67 2 rfl (by unfold vp_in; decide) ?_
      refine k_to z_5 ez_5.symm ?_
      refine k_ic_ge 127 X dX11_weakLine_68 (by decide) (fun h_58 => ?_) (fun h_58 => ?_)
      · skip
        have j_59 : z_5.toInt ≤ u_49.toInt := iv_le h_58
        refine k_aload_n X dX11_weakLine_127 4 rfl ?_
        refine k_get (ci := 11) X inlX11 rfl 13 (by decide) dX11_weakLine_128 mw469 3 rfl rfl ?_
        refine k_if_eq 135 X dX11_weakLine_131 (by decide) (fun h_60 => ?_) (fun h_60 => ?_)
        · skip
          have iv_61 : IV u_52 0 0 := iv_meet hv_53 (iv_e h_60 (show IV 0 0 0 from (by decide))) (by decide) (by decide)
          refine k_aload_n X dX11_weakLine_135 4 rfl ?_
          refine k_callVV (n := 0) (As := []) (st := []) X [(h0, .inr (11, [.int m_thrown, .ref a_tape, .int m_taped, .int m_size, .int m_at2_14, .int m_end2_15, .int m_token2_21, .int m_whole2_22, .int m_nameSize2_19, .int u_54, .int u_51, .int m_trouble, .ref a_letters, .int u_52, .int m_hasHouse, .ref a_r, .ref a_fresh, .ref a_st, .ref a_undone, .ref a_kept, .int m_undos, .int m_images, .ref a_from, .ref a_begin, .ref a_motor, .ref a_change, .ref a_startFrame, .ref a_changeFrame, .ref a_lostAt, .ref a_blackAt, .ref a_slips, .ref a_leftArc, .ref a_died, .ref a_arcs, .int m_bestSum, .int m_nearest, .int m_nearestTown, .ref a_there, .ref a_backAt, .ref a_sorted, .ref a_parts, .int m_seed1, .int m_darkNow])), (a_tape, .inl (g.2.2.1, 900, .inl d_tape)), (a_letters, .inl (g.2.2.1, 8, .inl d_letters2_18))] [(a_fresh, .inl (g.2.2.1, 311, .inl d_fresh))] [3, 0, 1] [2] (m_next l g h0 m_thrown a_tape m_taped m_size m_at2_14 m_end2_15 m_token2_21 m_whole2_22 m_nameSize2_19 u_54 u_51 m_trouble a_letters u_52 m_hasHouse a_r a_fresh a_st a_undone a_kept m_undos m_images a_from a_begin a_motor a_change a_startFrame a_changeFrame a_lostAt a_blackAt a_slips a_leftArc a_died a_arcs m_bestSum m_nearest m_nearestTown a_there a_backAt a_sorted a_parts m_seed1 m_darkNow d_tape d_letters2_18 (iv_w hv_m_size (by decide) (by decide)) (iv_w iv_24 (by decide) (by decide)) (iv_w iv_26 (by decide) (by decide))) dX11_weakLine_136 mw489 mw490 mw491 mw5 mw492 rfl 11 rfl rfl 0 _ rfl (by unfold yOk; decide) rfl (Nat.le_of_ble_eq_true rfl) (Nat.le_of_ble_eq_true rfl) (Nat.le_of_ble_eq_true rfl) (Nat.le_of_ble_eq_true rfl) (Nat.le_of_ble_eq_true rfl) rfl rfl (by decide) rfl (by decide) (by decide) ?_
          rintro w ⟨m_at2_62, m_end2_63, d_letters2_64, m_nameSize2_65, m_token2_66, m_whole2_67, iv_69, iv_70, hq_71, hq_72, hk_73, rfl⟩
          refine k_ws [(a_fresh, .inl (g.2.2.1, 311, .inl d_fresh)), (h0, .inr (11, [.int m_thrown, .ref a_tape, .int m_taped, .int m_size, .int m_at2_62, .int m_end2_63, .int m_token2_66, .int m_whole2_67, .int m_nameSize2_65, .int u_54, .int u_51, .int m_trouble, .ref a_letters, .int u_52, .int m_hasHouse, .ref a_r, .ref a_fresh, .ref a_st, .ref a_undone, .ref a_kept, .int m_undos, .int m_images, .ref a_from, .ref a_begin, .ref a_motor, .ref a_change, .ref a_startFrame, .ref a_changeFrame, .ref a_lostAt, .ref a_blackAt, .ref a_slips, .ref a_leftArc, .ref a_died, .ref a_arcs, .int m_bestSum, .int m_nearest, .int m_nearestTown, .ref a_there, .ref a_backAt, .ref a_sorted, .ref a_parts, .int m_seed1, .int m_darkNow])), (a_tape, .inl (g.2.2.1, 900, .inl d_tape)), (a_letters, .inl (g.2.2.1, 8, .inl d_letters2_64))] rfl ?_
          refine k_aload_n X dX11_weakLine_139 4 rfl ?_
          refine k_get (ci := 11) X inlX11 rfl 16 (by decide) dX11_weakLine_140 mw171 1 rfl rfl ?_
          refine k_iload_n X dX11_weakLine_143 3 rfl ?_
          refine k_iload_n X dX11_weakLine_144 2 rfl ?_
          refine k_iast [(a_fresh, .inl (g.2.2.1, 311, .inl (upd d_fresh (z_11 : Int32).toNatClampNeg r_23))), (h0, .inr (11, [.int m_thrown, .ref a_tape, .int m_taped, .int m_size, .int m_at2_62, .int m_end2_63, .int m_token2_66, .int m_whole2_67, .int m_nameSize2_65, .int u_54, .int u_51, .int m_trouble, .ref a_letters, .int u_52, .int m_hasHouse, .ref a_r, .ref a_fresh, .ref a_st, .ref a_undone, .ref a_kept, .int m_undos, .int m_images, .ref a_from, .ref a_begin, .ref a_motor, .ref a_change, .ref a_startFrame, .ref a_changeFrame, .ref a_lostAt, .ref a_blackAt, .ref a_slips, .ref a_leftArc, .ref a_died, .ref a_arcs, .int m_bestSum, .int m_nearest, .int m_nearestTown, .ref a_there, .ref a_backAt, .ref a_sorted, .ref a_parts, .int m_seed1, .int m_darkNow])), (a_tape, .inl (g.2.2.1, 900, .inl d_tape)), (a_letters, .inl (g.2.2.1, 8, .inl d_letters2_64))] X dX11_weakLine_145 0 rfl (iv_in iv_13 (by decide) (by decide)) rfl ?_
          have i_76 : z_11.toInt = 96 + 3 * z_5.toInt := by omega
          refine (fun hg : ∀ fa_74 : Nat → Int32, RInv fa_74 → K16 d_fresh fa_74 → Wk p l e _ s m args below meth c _ A g _ _ _ [(a_fresh, .inl (g.2.2.1, 311, .inl fa_74)), (h0, .inr (11, [.int m_thrown, .ref a_tape, .int m_taped, .int m_size, .int m_at2_62, .int m_end2_63, .int m_token2_66, .int m_whole2_67, .int m_nameSize2_65, .int u_54, .int u_51, .int m_trouble, .ref a_letters, .int u_52, .int m_hasHouse, .ref a_r, .ref a_fresh, .ref a_st, .ref a_undone, .ref a_kept, .int m_undos, .int m_images, .ref a_from, .ref a_begin, .ref a_motor, .ref a_change, .ref a_startFrame, .ref a_changeFrame, .ref a_lostAt, .ref a_blackAt, .ref a_slips, .ref a_leftArc, .ref a_died, .ref a_arcs, .int m_bestSum, .int m_nearest, .int m_nearestTown, .ref a_there, .ref a_backAt, .ref a_sorted, .ref a_parts, .int m_seed1, .int m_darkNow])), (a_tape, .inl (g.2.2.1, 900, .inl d_tape)), (a_letters, .inl (g.2.2.1, 8, .inl d_letters2_64))] _ _ _ => hg _ (w_rb_96_3 hp_d_fresh i_76 (iv_w iv_7 (by decide) (by decide)) (iv_w iv_27 (by decide) (by decide))) (k16_u (by have := iv_13; omega))) (fun fa_74 hR_75 hk_77 => ?_)
          have ek_78 : z_5 = fa_74 (10 : Int32).toNatClampNeg := ez_5.trans (hk_77 _ (by decide)).symm
          refine k_aload_n X dX11_weakLine_146 4 rfl ?_
          refine k_get (ci := 11) X inlX11 rfl 16 (by decide) dX11_weakLine_147 mw171 1 rfl rfl ?_
          refine k_iload_n X dX11_weakLine_150 3 rfl ?_
          refine k_iconst (v := 1) X dX11_weakLine_151 (by decide) ?_
          refine k_iadd X dX11_weakLine_152 ?_
          refine k_nm (fun z_79 ez_79 => ?_)
          have i_80 : z_79.toInt = z_11.toInt + 1 := in_add ez_79 iv_13 (show IV 1 1 1 from (by decide)) (by decide) (by decide)
          have iv_81 : IV z_79 97 112 := by have := iv_13; have := (show IV 1 1 1 from (by decide)); rw [IV, i_80]; omega
          refine k_iload_n X dX11_weakLine_153 1 rfl ?_
          refine k_iast [(a_fresh, .inl (g.2.2.1, 311, .inl (upd fa_74 (z_79 : Int32).toNatClampNeg r_44))), (h0, .inr (11, [.int m_thrown, .ref a_tape, .int m_taped, .int m_size, .int m_at2_62, .int m_end2_63, .int m_token2_66, .int m_whole2_67, .int m_nameSize2_65, .int u_54, .int u_51, .int m_trouble, .ref a_letters, .int u_52, .int m_hasHouse, .ref a_r, .ref a_fresh, .ref a_st, .ref a_undone, .ref a_kept, .int m_undos, .int m_images, .ref a_from, .ref a_begin, .ref a_motor, .ref a_change, .ref a_startFrame, .ref a_changeFrame, .ref a_lostAt, .ref a_blackAt, .ref a_slips, .ref a_leftArc, .ref a_died, .ref a_arcs, .int m_bestSum, .int m_nearest, .int m_nearestTown, .ref a_there, .ref a_backAt, .ref a_sorted, .ref a_parts, .int m_seed1, .int m_darkNow])), (a_tape, .inl (g.2.2.1, 900, .inl d_tape)), (a_letters, .inl (g.2.2.1, 8, .inl d_letters2_64))] X dX11_weakLine_154 0 rfl (iv_in iv_81 (by decide) (by decide)) rfl ?_
          have i_84 : z_79.toInt = 97 + 3 * z_5.toInt := by omega
          refine (fun hg : ∀ fa_82 : Nat → Int32, RInv fa_82 → K16 fa_74 fa_82 → Wk p l e _ s m args below meth c _ A g _ _ _ [(a_fresh, .inl (g.2.2.1, 311, .inl fa_82)), (h0, .inr (11, [.int m_thrown, .ref a_tape, .int m_taped, .int m_size, .int m_at2_62, .int m_end2_63, .int m_token2_66, .int m_whole2_67, .int m_nameSize2_65, .int u_54, .int u_51, .int m_trouble, .ref a_letters, .int u_52, .int m_hasHouse, .ref a_r, .ref a_fresh, .ref a_st, .ref a_undone, .ref a_kept, .int m_undos, .int m_images, .ref a_from, .ref a_begin, .ref a_motor, .ref a_change, .ref a_startFrame, .ref a_changeFrame, .ref a_lostAt, .ref a_blackAt, .ref a_slips, .ref a_leftArc, .ref a_died, .ref a_arcs, .int m_bestSum, .int m_nearest, .int m_nearestTown, .ref a_there, .ref a_backAt, .ref a_sorted, .ref a_parts, .int m_seed1, .int m_darkNow])), (a_tape, .inl (g.2.2.1, 900, .inl d_tape)), (a_letters, .inl (g.2.2.1, 8, .inl d_letters2_64))] _ _ _ => hg _ (w_fr_97_3 hR_75 i_84 (iv_w iv_7 (by decide) (by decide))) (k16_u (by have := iv_81; omega))) (fun fa_82 hR_83 hk_85 => ?_)
          have ek_86 : z_5 = fa_82 (10 : Int32).toNatClampNeg := ek_78.trans (hk_85 _ (by decide)).symm
          refine k_aload_n X dX11_weakLine_155 4 rfl ?_
          refine k_get (ci := 11) X inlX11 rfl 16 (by decide) dX11_weakLine_156 mw171 1 rfl rfl ?_
          refine k_iload_n X dX11_weakLine_159 3 rfl ?_
          refine k_iconst (v := 2) X dX11_weakLine_160 (by decide) ?_
          refine k_iadd X dX11_weakLine_161 ?_
          refine k_nm (fun z_87 ez_87 => ?_)
          have i_88 : z_87.toInt = z_11.toInt + 2 := in_add ez_87 iv_13 (show IV 2 2 2 from (by decide)) (by decide) (by decide)
          have iv_89 : IV z_87 98 113 := by have := iv_13; have := (show IV 2 2 2 from (by decide)); rw [IV, i_88]; omega
          refine k_aload_n X dX11_weakLine_162 4 rfl ?_
          refine k_ldcwS (tx := "snaps") X dX11_weakLine_163 (by decide +kernel) (fun sr_90 hsr_90 => ?_)
          refine k_iconst (v := 1) X dX11_weakLine_166 (by decide) ?_
          refine k_bipush (v := 99) X dX11_weakLine_167 (by decide) ?_
          refine k_callVI (n := 3) (As := [.ref sr_90, .int 1, .int 99]) (st := [.int z_87, .ref a_fresh]) X [(h0, .inr (11, [.int m_thrown, .ref a_tape, .int m_taped, .int m_size, .int m_at2_62, .int m_end2_63, .int m_token2_66, .int m_whole2_67, .int m_nameSize2_65, .int u_54, .int u_51, .int m_trouble, .ref a_letters, .int u_52, .int m_hasHouse, .ref a_r, .ref a_fresh, .ref a_st, .ref a_undone, .ref a_kept, .int m_undos, .int m_images, .ref a_from, .ref a_begin, .ref a_motor, .ref a_change, .ref a_startFrame, .ref a_changeFrame, .ref a_lostAt, .ref a_blackAt, .ref a_slips, .ref a_leftArc, .ref a_died, .ref a_arcs, .int m_bestSum, .int m_nearest, .int m_nearestTown, .ref a_there, .ref a_backAt, .ref a_sorted, .ref a_parts, .int m_seed1, .int m_darkNow])), (a_tape, .inl (g.2.2.1, 900, .inl d_tape)), (a_letters, .inl (g.2.2.1, 8, .inl d_letters2_64))] [(a_fresh, .inl (g.2.2.1, 311, .inl fa_82))] [1, 2, 3] [0] (m_after l g h0 sr_90 1 99 m_thrown a_tape m_taped m_size m_at2_62 m_end2_63 m_token2_66 m_whole2_67 m_nameSize2_65 u_54 u_51 m_trouble a_letters u_52 m_hasHouse a_r a_fresh a_st a_undone a_kept m_undos m_images a_from a_begin a_motor a_change a_startFrame a_changeFrame a_lostAt a_blackAt a_slips a_leftArc a_died a_arcs m_bestSum m_nearest m_nearestTown a_there a_backAt a_sorted a_parts m_seed1 m_darkNow d_tape d_letters2_64 ("snaps") (iv_w hv_m_size (by decide) (by decide)) (iv_w iv_69 (by decide) (by decide)) (iv_w iv_70 (by decide) (by decide)) (iv_w iv_61 (by decide) (by decide)) hsr_90 hk_73) dX11_weakLine_169 mw523 mw524 mw525 mw5 mw526 rfl 11 rfl rfl 0 _ rfl (by unfold yOk; decide) rfl (Nat.le_of_ble_eq_true rfl) (Nat.le_of_ble_eq_true rfl) (Nat.le_of_ble_eq_true rfl) (Nat.le_of_ble_eq_true rfl) (Nat.le_of_ble_eq_true rfl) rfl rfl (by decide) rfl (by decide) (by decide) ?_
          rintro r_100 w ⟨m_at2_91, m_end2_92, m_failed2_93, m_fault2_94, d_letters2_95, m_nameSize2_96, m_place2_97, m_token2_98, m_whole2_99, iv_101, iv_102, iv_103, hq_104, hq_105, hk_106, rfl⟩
          refine k_ws [(a_fresh, .inl (g.2.2.1, 311, .inl fa_82)), (h0, .inr (11, [.int m_thrown, .ref a_tape, .int m_taped, .int m_size, .int m_at2_91, .int m_end2_92, .int m_token2_98, .int m_whole2_99, .int m_nameSize2_96, .int m_fault2_94, .int m_place2_97, .int m_trouble, .ref a_letters, .int m_failed2_93, .int m_hasHouse, .ref a_r, .ref a_fresh, .ref a_st, .ref a_undone, .ref a_kept, .int m_undos, .int m_images, .ref a_from, .ref a_begin, .ref a_motor, .ref a_change, .ref a_startFrame, .ref a_changeFrame, .ref a_lostAt, .ref a_blackAt, .ref a_slips, .ref a_leftArc, .ref a_died, .ref a_arcs, .int m_bestSum, .int m_nearest, .int m_nearestTown, .ref a_there, .ref a_backAt, .ref a_sorted, .ref a_parts, .int m_seed1, .int m_darkNow])), (a_tape, .inl (g.2.2.1, 900, .inl d_tape)), (a_letters, .inl (g.2.2.1, 8, .inl d_letters2_95))] rfl ?_
          have e_107 : (1 : Int32).toInt = 1 := by decide
          have e_108 : (99 : Int32).toInt = 99 := by decide
          have iv_109 : IV r_100 1 99 := by have := (show IV 1 1 1 from (by decide)); have := (show IV 99 99 99 from (by decide)); rw [IV]; omega
          refine k_iast [(a_fresh, .inl (g.2.2.1, 311, .inl (upd fa_82 (z_87 : Int32).toNatClampNeg r_100))), (h0, .inr (11, [.int m_thrown, .ref a_tape, .int m_taped, .int m_size, .int m_at2_91, .int m_end2_92, .int m_token2_98, .int m_whole2_99, .int m_nameSize2_96, .int m_fault2_94, .int m_place2_97, .int m_trouble, .ref a_letters, .int m_failed2_93, .int m_hasHouse, .ref a_r, .ref a_fresh, .ref a_st, .ref a_undone, .ref a_kept, .int m_undos, .int m_images, .ref a_from, .ref a_begin, .ref a_motor, .ref a_change, .ref a_startFrame, .ref a_changeFrame, .ref a_lostAt, .ref a_blackAt, .ref a_slips, .ref a_leftArc, .ref a_died, .ref a_arcs, .int m_bestSum, .int m_nearest, .int m_nearestTown, .ref a_there, .ref a_backAt, .ref a_sorted, .ref a_parts, .int m_seed1, .int m_darkNow])), (a_tape, .inl (g.2.2.1, 900, .inl d_tape)), (a_letters, .inl (g.2.2.1, 8, .inl d_letters2_95))] X dX11_weakLine_172 0 rfl (iv_in iv_89 (by decide) (by decide)) rfl ?_
          have i_112 : z_87.toInt = 98 + 3 * z_5.toInt := by omega
          refine (fun hg : ∀ fa_110 : Nat → Int32, RInv fa_110 → K16 fa_82 fa_110 → Wk p l e _ s m args below meth c _ A g _ _ _ [(a_fresh, .inl (g.2.2.1, 311, .inl fa_110)), (h0, .inr (11, [.int m_thrown, .ref a_tape, .int m_taped, .int m_size, .int m_at2_91, .int m_end2_92, .int m_token2_98, .int m_whole2_99, .int m_nameSize2_96, .int m_fault2_94, .int m_place2_97, .int m_trouble, .ref a_letters, .int m_failed2_93, .int m_hasHouse, .ref a_r, .ref a_fresh, .ref a_st, .ref a_undone, .ref a_kept, .int m_undos, .int m_images, .ref a_from, .ref a_begin, .ref a_motor, .ref a_change, .ref a_startFrame, .ref a_changeFrame, .ref a_lostAt, .ref a_blackAt, .ref a_slips, .ref a_leftArc, .ref a_died, .ref a_arcs, .int m_bestSum, .int m_nearest, .int m_nearestTown, .ref a_there, .ref a_backAt, .ref a_sorted, .ref a_parts, .int m_seed1, .int m_darkNow])), (a_tape, .inl (g.2.2.1, 900, .inl d_tape)), (a_letters, .inl (g.2.2.1, 8, .inl d_letters2_95))] _ _ _ => hg _ (w_fr_98_3 hR_83 i_112 (iv_w iv_7 (by decide) (by decide))) (k16_u (by have := iv_89; omega))) (fun fa_110 hR_111 hk_113 => ?_)
          have ek_114 : z_5 = fa_110 (10 : Int32).toNatClampNeg := ek_86.trans (hk_113 _ (by decide)).symm
          refine k_aload_n X dX11_weakLine_173 4 rfl ?_
          refine k_get (ci := 11) X inlX11 rfl 13 (by decide) dX11_weakLine_174 mw469 1 rfl rfl ?_
          refine k_if_ne 191 X dX11_weakLine_177 (by decide) (fun h_115 => ?_) (fun h_115 => ?_)
          · skip
            have iv_116 : IV m_failed2_93 1 1 := iv_neL h_115 iv_102 (show IV 0 0 0 from (by decide)) (by decide)
            exact k_vret X hr dX11_weakLine_191 (Nat.le_of_ble_eq_true rfl) (Nat.le_of_ble_eq_true rfl) [1, 2, 3, 0] (by decide) rfl rfl ⟨m_at2_91, m_end2_92, m_failed2_93, m_fault2_94, fa_110, d_letters2_95, m_nameSize2_96, m_place2_97, m_token2_98, m_whole2_99, (iv_w iv_101 (by decide) (by decide)), (iv_w iv_116 (by decide) (by decide)), (iv_w iv_103 (by decide) (by decide)), hR_111, (by omega), hk_106, rfl⟩
          · skip
            have iv_117 : IV m_failed2_93 0 0 := iv_meet iv_102 (iv_e h_115 (show IV 0 0 0 from (by decide))) (by decide) (by decide)
            refine k_aload_n X dX11_weakLine_180 4 rfl ?_
            refine k_get (ci := 11) X inlX11 rfl 16 (by decide) dX11_weakLine_181 mw171 1 rfl rfl ?_
            refine k_bipush (v := 10) X dX11_weakLine_184 (by decide) ?_
            refine k_dup2 X dX11_weakLine_186 rfl rfl ?_
            refine k_iald X dX11_weakLine_187 0 rfl (by unfold vp_in; decide) ?_
            refine k_to z_5 ek_114.symm ?_
            refine k_iconst (v := 1) X dX11_weakLine_188 (by decide) ?_
            refine k_iadd X dX11_weakLine_189 ?_
            refine k_nm (fun z_118 ez_118 => ?_)
            have i_119 : z_118.toInt = z_5.toInt + 1 := in_add ez_118 iv_7 (show IV 1 1 1 from (by decide)) (by decide) (by decide)
            have iv_120 : IV z_118 1 6 := by have := iv_7; have := (show IV 1 1 1 from (by decide)); rw [IV, i_119]; omega
            refine k_iast [(a_fresh, .inl (g.2.2.1, 311, .inl (upd fa_110 (10 : Int32).toNatClampNeg z_118))), (h0, .inr (11, [.int m_thrown, .ref a_tape, .int m_taped, .int m_size, .int m_at2_91, .int m_end2_92, .int m_token2_98, .int m_whole2_99, .int m_nameSize2_96, .int m_fault2_94, .int m_place2_97, .int m_trouble, .ref a_letters, .int m_failed2_93, .int m_hasHouse, .ref a_r, .ref a_fresh, .ref a_st, .ref a_undone, .ref a_kept, .int m_undos, .int m_images, .ref a_from, .ref a_begin, .ref a_motor, .ref a_change, .ref a_startFrame, .ref a_changeFrame, .ref a_lostAt, .ref a_blackAt, .ref a_slips, .ref a_leftArc, .ref a_died, .ref a_arcs, .int m_bestSum, .int m_nearest, .int m_nearestTown, .ref a_there, .ref a_backAt, .ref a_sorted, .ref a_parts, .int m_seed1, .int m_darkNow])), (a_tape, .inl (g.2.2.1, 900, .inl d_tape)), (a_letters, .inl (g.2.2.1, 8, .inl d_letters2_95))] X dX11_weakLine_190 0 rfl (by unfold vp_in; decide) rfl ?_
            refine (fun hg : ∀ fa_121 : Nat → Int32, RInv fa_121 → Wk p l e _ s m args below meth c _ A g _ _ _ [(a_fresh, .inl (g.2.2.1, 311, .inl fa_121)), (h0, .inr (11, [.int m_thrown, .ref a_tape, .int m_taped, .int m_size, .int m_at2_91, .int m_end2_92, .int m_token2_98, .int m_whole2_99, .int m_nameSize2_96, .int m_fault2_94, .int m_place2_97, .int m_trouble, .ref a_letters, .int m_failed2_93, .int m_hasHouse, .ref a_r, .ref a_fresh, .ref a_st, .ref a_undone, .ref a_kept, .int m_undos, .int m_images, .ref a_from, .ref a_begin, .ref a_motor, .ref a_change, .ref a_startFrame, .ref a_changeFrame, .ref a_lostAt, .ref a_blackAt, .ref a_slips, .ref a_leftArc, .ref a_died, .ref a_arcs, .int m_bestSum, .int m_nearest, .int m_nearestTown, .ref a_there, .ref a_backAt, .ref a_sorted, .ref a_parts, .int m_seed1, .int m_darkNow])), (a_tape, .inl (g.2.2.1, 900, .inl d_tape)), (a_letters, .inl (g.2.2.1, 8, .inl d_letters2_95))] _ _ _ => hg _ (w_rb_10 hR_111 (iv_w iv_120 (by decide) (by decide)))) (fun fa_121 hR_122 => ?_)
            exact k_vret X hr dX11_weakLine_191 (Nat.le_of_ble_eq_true rfl) (Nat.le_of_ble_eq_true rfl) [1, 2, 3, 0] (by decide) rfl rfl ⟨m_at2_91, m_end2_92, m_failed2_93, m_fault2_94, fa_121, d_letters2_95, m_nameSize2_96, m_place2_97, m_token2_98, m_whole2_99, (iv_w iv_101 (by decide) (by decide)), (iv_w iv_117 (by decide) (by decide)), (iv_w iv_103 (by decide) (by decide)), hR_122, (by omega), hk_106, rfl⟩
        · skip
          have iv_124 : IV u_52 1 1 := iv_neL h_60 hv_53 (show IV 0 0 0 from (by decide)) (by decide)
          exact k_vret X hr dX11_weakLine_134 (Nat.le_of_ble_eq_true rfl) (Nat.le_of_ble_eq_true rfl) [3, 0, 1, 2] (by decide) rfl rfl ⟨m_at2_14, m_end2_15, u_52, u_54, d_fresh, d_letters2_18, m_nameSize2_19, u_51, m_token2_21, m_whole2_22, (iv_w iv_24 (by decide) (by decide)), (iv_w iv_124 (by decide) (by decide)), (iv_w iv_26 (by decide) (by decide)), hp_d_fresh, (by omega), hk_29, rfl⟩
      · skip
        have j_125 : u_49.toInt < z_5.toInt := iv_nle h_58
        have iv_126 : IV u_49 0 4 := iv_ltL (iv_nle h_58) hv_50 iv_7 (by decide)
        have iv_127 : IV z_5 1 5 := iv_ltR (iv_nle h_58) hv_50 iv_7 (by decide)
        refine k_aload_n X dX11_weakLine_71 4 rfl ?_
        refine k_get (ci := 11) X inlX11 rfl 13 (by decide) dX11_weakLine_72 mw469 3 rfl rfl ?_
        refine k_if_ne 121 X dX11_weakLine_75 (by decide) (fun h_128 => ?_) (fun h_128 => ?_)
        · skip
          have iv_129 : IV u_52 1 1 := iv_neL h_128 hv_53 (show IV 0 0 0 from (by decide)) (by decide)
          obtain ⟨z_130, ez_130⟩ : ∃ y : Int32, u_49 + Int32.ofInt 1 = y := ⟨_, rfl⟩
          refine k_iinc z_130 [(4, .int z_130), (3, .int r_44), (2, .int r_23), (1, .int z_11), (0, .ref h0)] 0 X dX11_weakLine_121 rfl ez_130 (by decide) rfl ?_
          have i_131 : z_130.toInt = u_49.toInt + 1 := in_inc ez_130 (by decide) iv_126 (by decide) (by decide)
          have iv_132 : IV z_130 1 5 := by have := iv_126; rw [IV, i_131]; omega
          refine k_goto 59 X dX11_weakLine_124 (by decide) ?_
          exact ih_57 _ (by omega) z_130 u_51 u_52 u_54 rfl (iv_w iv_132 (by decide) (by decide)) (iv_w iv_129 (by decide) (by decide))
        · skip
          have iv_133 : IV u_52 0 0 := iv_meet hv_53 (iv_e h_128 (show IV 0 0 0 from (by decide))) (by decide) (by decide)
          refine k_aload_n X dX11_weakLine_78 4 rfl ?_
          refine k_get (ci := 11) X inlX11 rfl 16 (by decide) dX11_weakLine_79 mw171 3 rfl rfl ?_
          refine k_bipush (v := 96) X dX11_weakLine_82 (by decide) ?_
          refine k_iconst (v := 3) X dX11_weakLine_84 (by decide) ?_
          refine k_iload X dX11_weakLine_85 0 rfl ?_
          refine k_imul X dX11_weakLine_87 ?_
          refine k_nm (fun z_134 ez_134 => ?_)
          have i_135 : z_134.toInt = 3 * u_49.toInt := in_mul ez_134 (by decide) (by decide) iv_126 (by decide) (by decide)
          have iv_136 : IV z_134 0 12 := by have := (show IV 3 3 3 from (by decide)); have := iv_126; rw [IV, i_135]; omega
          refine k_iadd X dX11_weakLine_88 ?_
          refine k_nm (fun z_137 ez_137 => ?_)
          have i_138 : z_137.toInt = 96 + z_134.toInt := in_add ez_137 (show IV 96 96 96 from (by decide)) iv_136 (by decide) (by decide)
          have iv_139 : IV z_137 96 108 := by have := (show IV 96 96 96 from (by decide)); have := iv_136; rw [IV, i_138]; omega
          refine k_iald X dX11_weakLine_89 2 rfl (iv_in iv_139 (by decide) (by decide)) ?_
          refine k_nm (fun z_140 ez_140 => ?_)
          have i_141 : z_137.toInt = 96 + 3 * u_49.toInt := by omega
          have iv_142 : IV z_140 0 7 := rb_96_3 ez_140 hp_d_fresh i_141 (iv_w iv_126 (by decide) (by decide))
          refine k_iload_n X dX11_weakLine_90 2 rfl ?_
          refine k_ic_ne 121 X dX11_weakLine_91 (by decide) (fun h_143 => ?_) (fun h_143 => ?_)
          · skip
            obtain ⟨z_144, ez_144⟩ : ∃ y : Int32, u_49 + Int32.ofInt 1 = y := ⟨_, rfl⟩
            refine k_iinc z_144 [(4, .int z_144), (3, .int r_44), (2, .int r_23), (1, .int z_11), (0, .ref h0)] 0 X dX11_weakLine_121 rfl ez_144 (by decide) rfl ?_
            have i_145 : z_144.toInt = u_49.toInt + 1 := in_inc ez_144 (by decide) iv_126 (by decide) (by decide)
            have iv_146 : IV z_144 1 5 := by have := iv_126; rw [IV, i_145]; omega
            refine k_goto 59 X dX11_weakLine_124 (by decide) ?_
            exact ih_57 _ (by omega) z_144 u_51 u_52 u_54 rfl (iv_w iv_146 (by decide) (by decide)) (iv_w iv_133 (by decide) (by decide))
          · skip
            refine k_aload_n X dX11_weakLine_94 4 rfl ?_
            refine k_get (ci := 11) X inlX11 rfl 16 (by decide) dX11_weakLine_95 mw171 3 rfl rfl ?_
            refine k_bipush (v := 96) X dX11_weakLine_98 (by decide) ?_
            refine k_iconst (v := 3) X dX11_weakLine_100 (by decide) ?_
            refine k_iload X dX11_weakLine_101 0 rfl ?_
            refine k_imul X dX11_weakLine_103 ?_
            refine k_to z_134 ez_134.symm ?_
            refine k_iadd X dX11_weakLine_104 ?_
            refine k_to z_137 ez_137.symm ?_
            refine k_iconst (v := 1) X dX11_weakLine_105 (by decide) ?_
            refine k_iadd X dX11_weakLine_106 ?_
            refine k_nm (fun z_147 ez_147 => ?_)
            have i_148 : z_147.toInt = z_137.toInt + 1 := in_add ez_147 iv_139 (show IV 1 1 1 from (by decide)) (by decide) (by decide)
            have iv_149 : IV z_147 97 109 := by have := iv_139; have := (show IV 1 1 1 from (by decide)); rw [IV, i_148]; omega
            refine k_iald X dX11_weakLine_107 2 rfl (iv_in iv_149 (by decide) (by decide)) ?_
            refine k_nm (fun z_150 ez_150 => ?_)
            refine k_iload_n X dX11_weakLine_108 1 rfl ?_
            refine k_ic_ne 121 X dX11_weakLine_109 (by decide) (fun h_151 => ?_) (fun h_151 => ?_)
            · skip
              obtain ⟨z_152, ez_152⟩ : ∃ y : Int32, u_49 + Int32.ofInt 1 = y := ⟨_, rfl⟩
              refine k_iinc z_152 [(4, .int z_152), (3, .int r_44), (2, .int r_23), (1, .int z_11), (0, .ref h0)] 0 X dX11_weakLine_121 rfl ez_152 (by decide) rfl ?_
              have i_153 : z_152.toInt = u_49.toInt + 1 := in_inc ez_152 (by decide) iv_126 (by decide) (by decide)
              have iv_154 : IV z_152 1 5 := by have := iv_126; rw [IV, i_153]; omega
              refine k_goto 59 X dX11_weakLine_124 (by decide) ?_
              exact ih_57 _ (by omega) z_152 u_51 u_52 u_54 rfl (iv_w iv_154 (by decide) (by decide)) (iv_w iv_133 (by decide) (by decide))
            · skip
              have iv_155 : IV z_150 0 2147483647 := iv_meet (iv_any z_150) (iv_e h_151 iv_48) (by decide) (by decide)
              refine k_aload_n X dX11_weakLine_112 4 rfl ?_
              refine k_iconst (v := 3) X dX11_weakLine_113 (by decide) ?_
              refine k_aload_n X dX11_weakLine_114 4 rfl ?_
              refine k_get (ci := 11) X inlX11 rfl 4 (by decide) dX11_weakLine_115 mw473 3 rfl rfl ?_
              refine k_callVV (n := 2) (As := [.int 3, .int m_at2_14]) (st := []) X [(h0, .inr (11, [.int m_thrown, .ref a_tape, .int m_taped, .int m_size, .int m_at2_14, .int m_end2_15, .int m_token2_21, .int m_whole2_22, .int m_nameSize2_19, .int u_54, .int u_51, .int m_trouble, .ref a_letters, .int u_52, .int m_hasHouse, .ref a_r, .ref a_fresh, .ref a_st, .ref a_undone, .ref a_kept, .int m_undos, .int m_images, .ref a_from, .ref a_begin, .ref a_motor, .ref a_change, .ref a_startFrame, .ref a_changeFrame, .ref a_lostAt, .ref a_blackAt, .ref a_slips, .ref a_leftArc, .ref a_died, .ref a_arcs, .int m_bestSum, .int m_nearest, .int m_nearestTown, .ref a_there, .ref a_backAt, .ref a_sorted, .ref a_parts, .int m_seed1, .int m_darkNow]))] [(a_tape, .inl (g.2.2.1, 900, .inl d_tape)), (a_letters, .inl (g.2.2.1, 8, .inl d_letters2_18)), (a_fresh, .inl (g.2.2.1, 311, .inl d_fresh))] [3] [0, 1, 2] (m_bad l g h0 3 m_at2_14 m_thrown a_tape m_taped m_size m_at2_14 m_end2_15 m_token2_21 m_whole2_22 m_nameSize2_19 u_54 u_51 m_trouble a_letters u_52 m_hasHouse a_r a_fresh a_st a_undone a_kept m_undos m_images a_from a_begin a_motor a_change a_startFrame a_changeFrame a_lostAt a_blackAt a_slips a_leftArc a_died a_arcs m_bestSum m_nearest m_nearestTown a_there a_backAt a_sorted a_parts m_seed1 m_darkNow (iv_w iv_133 (by decide) (by decide))) dX11_weakLine_118 mw519 mw520 mw521 mw5 mw522 rfl 11 rfl rfl 0 _ rfl (by unfold yOk; decide) rfl (Nat.le_of_ble_eq_true rfl) (Nat.le_of_ble_eq_true rfl) (Nat.le_of_ble_eq_true rfl) (Nat.le_of_ble_eq_true rfl) (Nat.le_of_ble_eq_true rfl) rfl rfl (by decide) rfl (by decide) (by decide) ?_
              rintro w ⟨m_failed2_156, m_fault2_157, m_place2_158, iv_160, rfl⟩
              refine k_ws [(a_tape, .inl (g.2.2.1, 900, .inl d_tape)), (a_letters, .inl (g.2.2.1, 8, .inl d_letters2_18)), (a_fresh, .inl (g.2.2.1, 311, .inl d_fresh)), (h0, .inr (11, [.int m_thrown, .ref a_tape, .int m_taped, .int m_size, .int m_at2_14, .int m_end2_15, .int m_token2_21, .int m_whole2_22, .int m_nameSize2_19, .int m_fault2_157, .int m_place2_158, .int m_trouble, .ref a_letters, .int m_failed2_156, .int m_hasHouse, .ref a_r, .ref a_fresh, .ref a_st, .ref a_undone, .ref a_kept, .int m_undos, .int m_images, .ref a_from, .ref a_begin, .ref a_motor, .ref a_change, .ref a_startFrame, .ref a_changeFrame, .ref a_lostAt, .ref a_blackAt, .ref a_slips, .ref a_leftArc, .ref a_died, .ref a_arcs, .int m_bestSum, .int m_nearest, .int m_nearestTown, .ref a_there, .ref a_backAt, .ref a_sorted, .ref a_parts, .int m_seed1, .int m_darkNow]))] rfl ?_
              obtain ⟨z_161, ez_161⟩ : ∃ y : Int32, u_49 + Int32.ofInt 1 = y := ⟨_, rfl⟩
              refine k_iinc z_161 [(4, .int z_161), (3, .int r_44), (2, .int r_23), (1, .int z_11), (0, .ref h0)] 0 X dX11_weakLine_121 rfl ez_161 (by decide) rfl ?_
              have i_162 : z_161.toInt = u_49.toInt + 1 := in_inc ez_161 (by decide) iv_126 (by decide) (by decide)
              have iv_163 : IV z_161 1 5 := by have := iv_126; rw [IV, i_162]; omega
              refine k_goto 59 X dX11_weakLine_124 (by decide) ?_
              exact ih_57 _ (by omega) z_161 m_place2_158 m_failed2_156 m_fault2_157 rfl (iv_w iv_163 (by decide) (by decide)) (iv_w iv_160 (by decide) (by decide))
    · skip
      have iv_164 : IV m_failed2_16 1 1 := iv_neL h_30 iv_25 (show IV 0 0 0 from (by decide)) (by decide)
      refine k_iconst (v := 0) X dX11_weakLine_33 (by decide) ?_
      refine k_goto 55 X dX11_weakLine_34 (by decide) ?_
      refine k_istore_n [(3, .int 0), (2, .int r_23), (1, .int z_11), (0, .ref h0)] X dX11_weakLine_55 (by decide) rfl ?_
      refine k_iconst (v := 0) X dX11_weakLine_56 (by decide) ?_
      refine k_istore [(4, .int 0), (3, .int 0), (2, .int r_23), (1, .int z_11), (0, .ref h0)] X dX11_weakLine_57 (by decide) rfl ?_
      refine (fun hL : ∀ (nn_167 : Nat) (u_165 : Int32), (z_5.toInt - u_165.toInt).toNat = nn_167 → (IV u_165 0 8) → Wk p l e _ s m args below meth c _ A g _ _ _ [(h0, .inr (11, [.int m_thrown, .ref a_tape, .int m_taped, .int m_size, .int m_at2_14, .int m_end2_15, .int m_token2_21, .int m_whole2_22, .int m_nameSize2_19, .int m_fault2_17, .int m_place2_20, .int m_trouble, .ref a_letters, .int m_failed2_16, .int m_hasHouse, .ref a_r, .ref a_fresh, .ref a_st, .ref a_undone, .ref a_kept, .int m_undos, .int m_images, .ref a_from, .ref a_begin, .ref a_motor, .ref a_change, .ref a_startFrame, .ref a_changeFrame, .ref a_lostAt, .ref a_blackAt, .ref a_slips, .ref a_leftArc, .ref a_died, .ref a_arcs, .int m_bestSum, .int m_nearest, .int m_nearestTown, .ref a_there, .ref a_backAt, .ref a_sorted, .ref a_parts, .int m_seed1, .int m_darkNow])), (a_tape, .inl (g.2.2.1, 900, .inl d_tape)), (a_letters, .inl (g.2.2.1, 8, .inl d_letters2_18)), (a_fresh, .inl (g.2.2.1, 311, .inl d_fresh))] [(4, .int u_165), (3, .int 0), (2, .int r_23), (1, .int z_11), (0, .ref h0)] 59 [] => hL _ 0 rfl (iv_w (show IV 0 0 0 from (by decide)) (by decide) (by decide))) ?_
      refine fun nn_167 => Nat.strongRecOn nn_167 (fun nn_167 ih_169 => ?_)
      intro u_165 hm_168 hv_166
      refine k_iload X dX11_weakLine_59 0 rfl ?_
      refine k_aload_n X dX11_weakLine_61 4 rfl ?_
      refine k_get (ci := 11) X inlX11 rfl 16 (by decide) dX11_weakLine_62 mw171 0 rfl rfl ?_
      refine k_bipush (v := 10) X dX11_weakLine_65 (by decide) ?_
      refine k_iald X dX11_weakLine_67 3 rfl (by unfold vp_in; decide) ?_
      refine k_to z_5 ez_5.symm ?_
      refine k_ic_ge 127 X dX11_weakLine_68 (by decide) (fun h_170 => ?_) (fun h_170 => ?_)
      · skip
        have j_171 : z_5.toInt ≤ u_165.toInt := iv_le h_170
        refine k_aload_n X dX11_weakLine_127 4 rfl ?_
        refine k_get (ci := 11) X inlX11 rfl 13 (by decide) dX11_weakLine_128 mw469 0 rfl rfl ?_
        refine k_if_eq 135 X dX11_weakLine_131 (by decide) (fun h_172 => (iv_eqN h_172 iv_164 (show IV 0 0 0 from (by decide)) (by decide)).elim) (fun h_172 => ?_)
        exact k_vret X hr dX11_weakLine_134 (Nat.le_of_ble_eq_true rfl) (Nat.le_of_ble_eq_true rfl) [0, 1, 2, 3] (by decide) rfl rfl ⟨m_at2_14, m_end2_15, m_failed2_16, m_fault2_17, d_fresh, d_letters2_18, m_nameSize2_19, m_place2_20, m_token2_21, m_whole2_22, (iv_w iv_24 (by decide) (by decide)), (iv_w iv_164 (by decide) (by decide)), (iv_w iv_26 (by decide) (by decide)), hp_d_fresh, (by omega), hk_29, rfl⟩
      · skip
        have j_173 : u_165.toInt < z_5.toInt := iv_nle h_170
        have iv_174 : IV u_165 0 4 := iv_ltL (iv_nle h_170) hv_166 iv_7 (by decide)
        have iv_175 : IV z_5 1 5 := iv_ltR (iv_nle h_170) hv_166 iv_7 (by decide)
        refine k_aload_n X dX11_weakLine_71 4 rfl ?_
        refine k_get (ci := 11) X inlX11 rfl 13 (by decide) dX11_weakLine_72 mw469 0 rfl rfl ?_
        refine k_if_ne 121 X dX11_weakLine_75 (by decide) (fun h_176 => ?_) (fun h_176 => (iv_eqN h_176 iv_164 (show IV 0 0 0 from (by decide)) (by decide)).elim)
        obtain ⟨z_177, ez_177⟩ : ∃ y : Int32, u_165 + Int32.ofInt 1 = y := ⟨_, rfl⟩
        refine k_iinc z_177 [(4, .int z_177), (3, .int 0), (2, .int r_23), (1, .int z_11), (0, .ref h0)] 0 X dX11_weakLine_121 rfl ez_177 (by decide) rfl ?_
        have i_178 : z_177.toInt = u_165.toInt + 1 := in_inc ez_177 (by decide) iv_174 (by decide) (by decide)
        have iv_179 : IV z_177 1 5 := by have := iv_174; rw [IV, i_178]; omega
        refine k_goto 59 X dX11_weakLine_124 (by decide) ?_
        exact ih_169 _ (by omega) z_177 rfl (iv_w iv_179 (by decide) (by decide))
  · skip
    have iv_180 : IV m_failed 1 1 := iv_neL h_1 hv_m_failed (show IV 0 0 0 from (by decide)) (by decide)
    exact k_vret X hr dX11_weakLine_7 (Nat.le_of_ble_eq_true rfl) (Nat.le_of_ble_eq_true rfl) [0, 1, 2, 3] (by decide) rfl rfl ⟨m_at, m_end, m_failed, m_fault, d_fresh, d_letters, m_nameSize, m_place, m_token, m_whole, (iv_w hv_m_end (by decide) (by decide)), (iv_w iv_180 (by decide) (by decide)), (iv_w hv_m_nameSize (by decide) (by decide)), hp_d_fresh, (by omega), hc_1, rfl⟩

theorem dX11_manLine_0 : decode cX11_manLine 0 = .ok (.aload_n 0, 1) := by decide +kernel
theorem dX11_manLine_1 : decode cX11_manLine 1 = .ok (.getfield 121, 3) := by decide +kernel
theorem dX11_manLine_4 : decode cX11_manLine 4 = .ok (.ifCond .eq 4, 3) := by decide +kernel
theorem dX11_manLine_7 : decode cX11_manLine 7 = .ok (.return_, 1) := by decide +kernel
theorem dX11_manLine_8 : decode cX11_manLine 8 = .ok (.bipush 114, 2) := by decide +kernel
theorem dX11_manLine_10 : decode cX11_manLine 10 = .ok (.iconst 3, 1) := by decide +kernel
theorem dX11_manLine_11 : decode cX11_manLine 11 = .ok (.aload_n 0, 1) := by decide +kernel
theorem dX11_manLine_12 : decode cX11_manLine 12 = .ok (.getfield 23, 3) := by decide +kernel
theorem dX11_manLine_15 : decode cX11_manLine 15 = .ok (.bipush 11, 2) := by decide +kernel
theorem dX11_manLine_17 : decode cX11_manLine 17 = .ok (.iaload, 1) := by decide +kernel
theorem dX11_manLine_18 : decode cX11_manLine 18 = .ok (.imul, 1) := by decide +kernel
theorem dX11_manLine_19 : decode cX11_manLine 19 = .ok (.iadd, 1) := by decide +kernel
theorem dX11_manLine_20 : decode cX11_manLine 20 = .ok (.istore_n 1, 1) := by decide +kernel
theorem dX11_manLine_21 : decode cX11_manLine 21 = .ok (.aload_n 0, 1) := by decide +kernel
theorem dX11_manLine_22 : decode cX11_manLine 22 = .ok (.bipush 12, 2) := by decide +kernel
theorem dX11_manLine_24 : decode cX11_manLine 24 = .ok (.aload_n 0, 1) := by decide +kernel
theorem dX11_manLine_25 : decode cX11_manLine 25 = .ok (.getfield 23, 3) := by decide +kernel
theorem dX11_manLine_28 : decode cX11_manLine 28 = .ok (.bipush 11, 2) := by decide +kernel
theorem dX11_manLine_30 : decode cX11_manLine 30 = .ok (.iaload, 1) := by decide +kernel
theorem dX11_manLine_31 : decode cX11_manLine 31 = .ok (.iadd, 1) := by decide +kernel
theorem dX11_manLine_32 : decode cX11_manLine 32 = .ok (.invokevirtual 277, 3) := by decide +kernel
theorem dX11_manLine_35 : decode cX11_manLine 35 = .ok (.aload_n 0, 1) := by decide +kernel
theorem dX11_manLine_36 : decode cX11_manLine 36 = .ok (.ldc_w 298, 3) := by decide +kernel
theorem dX11_manLine_39 : decode cX11_manLine 39 = .ok (.invokevirtual 138, 3) := by decide +kernel
theorem dX11_manLine_42 : decode cX11_manLine 42 = .ok (.ifCond .eq 7, 3) := by decide +kernel
theorem dX11_manLine_45 : decode cX11_manLine 45 = .ok (.iconst 0, 1) := by decide +kernel
theorem dX11_manLine_46 : decode cX11_manLine 46 = .ok (.goto 46, 3) := by decide +kernel
theorem dX11_manLine_49 : decode cX11_manLine 49 = .ok (.aload_n 0, 1) := by decide +kernel
theorem dX11_manLine_50 : decode cX11_manLine 50 = .ok (.ldc_w 300, 3) := by decide +kernel
theorem dX11_manLine_53 : decode cX11_manLine 53 = .ok (.invokevirtual 138, 3) := by decide +kernel
theorem dX11_manLine_56 : decode cX11_manLine 56 = .ok (.ifCond .eq 7, 3) := by decide +kernel
theorem dX11_manLine_59 : decode cX11_manLine 59 = .ok (.iconst 1, 1) := by decide +kernel
theorem dX11_manLine_60 : decode cX11_manLine 60 = .ok (.goto 32, 3) := by decide +kernel
theorem dX11_manLine_63 : decode cX11_manLine 63 = .ok (.aload_n 0, 1) := by decide +kernel
theorem dX11_manLine_64 : decode cX11_manLine 64 = .ok (.ldc_w 302, 3) := by decide +kernel
theorem dX11_manLine_67 : decode cX11_manLine 67 = .ok (.invokevirtual 138, 3) := by decide +kernel
theorem dX11_manLine_70 : decode cX11_manLine 70 = .ok (.ifCond .eq 7, 3) := by decide +kernel
theorem dX11_manLine_73 : decode cX11_manLine 73 = .ok (.iconst 2, 1) := by decide +kernel
theorem dX11_manLine_74 : decode cX11_manLine 74 = .ok (.goto 18, 3) := by decide +kernel
theorem dX11_manLine_77 : decode cX11_manLine 77 = .ok (.aload_n 0, 1) := by decide +kernel
theorem dX11_manLine_78 : decode cX11_manLine 78 = .ok (.ldc_w 304, 3) := by decide +kernel
theorem dX11_manLine_81 : decode cX11_manLine 81 = .ok (.invokevirtual 138, 3) := by decide +kernel
theorem dX11_manLine_84 : decode cX11_manLine 84 = .ok (.ifCond .eq 7, 3) := by decide +kernel
theorem dX11_manLine_87 : decode cX11_manLine 87 = .ok (.iconst 3, 1) := by decide +kernel
theorem dX11_manLine_88 : decode cX11_manLine 88 = .ok (.goto 4, 3) := by decide +kernel
theorem dX11_manLine_91 : decode cX11_manLine 91 = .ok (.iconst (-1), 1) := by decide +kernel
theorem dX11_manLine_92 : decode cX11_manLine 92 = .ok (.istore_n 2, 1) := by decide +kernel
theorem dX11_manLine_93 : decode cX11_manLine 93 = .ok (.iload_n 2, 1) := by decide +kernel
theorem dX11_manLine_94 : decode cX11_manLine 94 = .ok (.ifCond .ge 12, 3) := by decide +kernel
theorem dX11_manLine_97 : decode cX11_manLine 97 = .ok (.aload_n 0, 1) := by decide +kernel
theorem dX11_manLine_98 : decode cX11_manLine 98 = .ok (.iconst 1, 1) := by decide +kernel
theorem dX11_manLine_99 : decode cX11_manLine 99 = .ok (.aload_n 0, 1) := by decide +kernel
theorem dX11_manLine_100 : decode cX11_manLine 100 = .ok (.getfield 102, 3) := by decide +kernel
theorem dX11_manLine_103 : decode cX11_manLine 103 = .ok (.invokevirtual 148, 3) := by decide +kernel
theorem dX11_manLine_106 : decode cX11_manLine 106 = .ok (.aload_n 0, 1) := by decide +kernel
theorem dX11_manLine_107 : decode cX11_manLine 107 = .ok (.getfield 121, 3) := by decide +kernel
theorem dX11_manLine_110 : decode cX11_manLine 110 = .ok (.ifCond .eq 4, 3) := by decide +kernel
theorem dX11_manLine_113 : decode cX11_manLine 113 = .ok (.return_, 1) := by decide +kernel
theorem dX11_manLine_114 : decode cX11_manLine 114 = .ok (.aload_n 0, 1) := by decide +kernel
theorem dX11_manLine_115 : decode cX11_manLine 115 = .ok (.invokevirtual 142, 3) := by decide +kernel
theorem dX11_manLine_118 : decode cX11_manLine 118 = .ok (.iconst 0, 1) := by decide +kernel
theorem dX11_manLine_119 : decode cX11_manLine 119 = .ok (.istore_n 3, 1) := by decide +kernel
theorem dX11_manLine_120 : decode cX11_manLine 120 = .ok (.iload_n 2, 1) := by decide +kernel
theorem dX11_manLine_121 : decode cX11_manLine 121 = .ok (.iconst 3, 1) := by decide +kernel
theorem dX11_manLine_122 : decode cX11_manLine 122 = .ok (.if_icmp .ne 23, 3) := by decide +kernel
theorem dX11_manLine_125 : decode cX11_manLine 125 = .ok (.aload_n 0, 1) := by decide +kernel
theorem dX11_manLine_126 : decode cX11_manLine 126 = .ok (.bipush 8, 2) := by decide +kernel
theorem dX11_manLine_128 : decode cX11_manLine 128 = .ok (.bipush 11, 2) := by decide +kernel
theorem dX11_manLine_130 : decode cX11_manLine 130 = .ok (.invokevirtual 186, 3) := by decide +kernel
theorem dX11_manLine_133 : decode cX11_manLine 133 = .ok (.istore_n 3, 1) := by decide +kernel
theorem dX11_manLine_134 : decode cX11_manLine 134 = .ok (.aload_n 0, 1) := by decide +kernel
theorem dX11_manLine_135 : decode cX11_manLine 135 = .ok (.getfield 121, 3) := by decide +kernel
theorem dX11_manLine_138 : decode cX11_manLine 138 = .ok (.ifCond .ne 7, 3) := by decide +kernel
theorem dX11_manLine_141 : decode cX11_manLine 141 = .ok (.aload_n 0, 1) := by decide +kernel
theorem dX11_manLine_142 : decode cX11_manLine 142 = .ok (.invokevirtual 142, 3) := by decide +kernel
theorem dX11_manLine_145 : decode cX11_manLine 145 = .ok (.aload_n 0, 1) := by decide +kernel
theorem dX11_manLine_146 : decode cX11_manLine 146 = .ok (.ldc_w 306, 3) := by decide +kernel
theorem dX11_manLine_149 : decode cX11_manLine 149 = .ok (.iconst 0, 1) := by decide +kernel
theorem dX11_manLine_150 : decode cX11_manLine 150 = .ok (.bipush 40, 2) := by decide +kernel
theorem dX11_manLine_152 : decode cX11_manLine 152 = .ok (.invokevirtual 264, 3) := by decide +kernel
theorem dX11_manLine_155 : decode cX11_manLine 155 = .ok (.istore 4, 2) := by decide +kernel
theorem dX11_manLine_157 : decode cX11_manLine 157 = .ok (.aload_n 0, 1) := by decide +kernel
theorem dX11_manLine_158 : decode cX11_manLine 158 = .ok (.getfield 121, 3) := by decide +kernel
theorem dX11_manLine_161 : decode cX11_manLine 161 = .ok (.ifCond .eq 4, 3) := by decide +kernel
theorem dX11_manLine_164 : decode cX11_manLine 164 = .ok (.return_, 1) := by decide +kernel
theorem dX11_manLine_165 : decode cX11_manLine 165 = .ok (.aload_n 0, 1) := by decide +kernel
theorem dX11_manLine_166 : decode cX11_manLine 166 = .ok (.getfield 23, 3) := by decide +kernel
theorem dX11_manLine_169 : decode cX11_manLine 169 = .ok (.iload_n 1, 1) := by decide +kernel
theorem dX11_manLine_170 : decode cX11_manLine 170 = .ok (.iload_n 2, 1) := by decide +kernel
theorem dX11_manLine_171 : decode cX11_manLine 171 = .ok (.iastore, 1) := by decide +kernel
theorem dX11_manLine_172 : decode cX11_manLine 172 = .ok (.aload_n 0, 1) := by decide +kernel
theorem dX11_manLine_173 : decode cX11_manLine 173 = .ok (.getfield 23, 3) := by decide +kernel
theorem dX11_manLine_176 : decode cX11_manLine 176 = .ok (.iload_n 1, 1) := by decide +kernel
theorem dX11_manLine_177 : decode cX11_manLine 177 = .ok (.iconst 1, 1) := by decide +kernel
theorem dX11_manLine_178 : decode cX11_manLine 178 = .ok (.iadd, 1) := by decide +kernel
theorem dX11_manLine_179 : decode cX11_manLine 179 = .ok (.iload_n 3, 1) := by decide +kernel
theorem dX11_manLine_180 : decode cX11_manLine 180 = .ok (.iastore, 1) := by decide +kernel
theorem dX11_manLine_181 : decode cX11_manLine 181 = .ok (.aload_n 0, 1) := by decide +kernel
theorem dX11_manLine_182 : decode cX11_manLine 182 = .ok (.getfield 23, 3) := by decide +kernel
theorem dX11_manLine_185 : decode cX11_manLine 185 = .ok (.iload_n 1, 1) := by decide +kernel
theorem dX11_manLine_186 : decode cX11_manLine 186 = .ok (.iconst 2, 1) := by decide +kernel
theorem dX11_manLine_187 : decode cX11_manLine 187 = .ok (.iadd, 1) := by decide +kernel
theorem dX11_manLine_188 : decode cX11_manLine 188 = .ok (.iload 4, 2) := by decide +kernel
theorem dX11_manLine_190 : decode cX11_manLine 190 = .ok (.iastore, 1) := by decide +kernel
theorem dX11_manLine_191 : decode cX11_manLine 191 = .ok (.aload_n 0, 1) := by decide +kernel
theorem dX11_manLine_192 : decode cX11_manLine 192 = .ok (.getfield 23, 3) := by decide +kernel
theorem dX11_manLine_195 : decode cX11_manLine 195 = .ok (.bipush 11, 2) := by decide +kernel
theorem dX11_manLine_197 : decode cX11_manLine 197 = .ok (.dup2, 1) := by decide +kernel
theorem dX11_manLine_198 : decode cX11_manLine 198 = .ok (.iaload, 1) := by decide +kernel
theorem dX11_manLine_199 : decode cX11_manLine 199 = .ok (.iconst 1, 1) := by decide +kernel
theorem dX11_manLine_200 : decode cX11_manLine 200 = .ok (.iadd, 1) := by decide +kernel
theorem dX11_manLine_201 : decode cX11_manLine 201 = .ok (.iastore, 1) := by decide +kernel
theorem dX11_manLine_202 : decode cX11_manLine 202 = .ok (.return_, 1) := by decide +kernel
set_option maxHeartbeats 4000000 in
set_option maxRecDepth 100000 in
theorem m_manLine (l : Launch) (g : Gx) (h0 : Nat) (m_thrown : Int32) (a_tape : Nat) (m_taped : Int32) (m_size : Int32) (m_at : Int32) (m_end : Int32) (m_token : Int32) (m_whole : Int32) (m_nameSize : Int32) (m_fault : Int32) (m_place : Int32) (m_trouble : Int32) (a_letters : Nat) (m_failed : Int32) (m_hasHouse : Int32) (a_r : Nat) (a_fresh : Nat) (a_st : Nat) (a_undone : Nat) (a_kept : Nat) (m_undos : Int32) (m_images : Int32) (a_from : Nat) (a_begin : Nat) (a_motor : Nat) (a_change : Nat) (a_startFrame : Nat) (a_changeFrame : Nat) (a_lostAt : Nat) (a_blackAt : Nat) (a_slips : Nat) (a_leftArc : Nat) (a_died : Nat) (a_arcs : Nat) (m_bestSum : Int32) (m_nearest : Int32) (m_nearestTown : Int32) (a_there : Nat) (a_backAt : Nat) (a_sorted : Nat) (a_parts : Nat) (m_seed1 : Int32) (m_darkNow : Int32) (d_tape : Nat → Int32) (d_letters : Nat → Int32) (d_fresh : Nat → Int32) (hv_m_size : IV m_size 0 900) (hv_m_end : IV m_end 0 900) (hv_m_nameSize : IV m_nameSize 0 900) (hv_m_failed : IV m_failed 0 1) (hp_d_fresh : RInv d_fresh) (hc_0 : m_failed = 1 ∨ ((d_fresh 11).toInt ≤ 3)) (hc_1 : m_token = 2 → IV m_nameSize 0 8) : cV l g yX11_manLine cX11_manLine 5 8 173 0 0 [.ref h0] [(h0, .inr (11, [.int m_thrown, .ref a_tape, .int m_taped, .int m_size, .int m_at, .int m_end, .int m_token, .int m_whole, .int m_nameSize, .int m_fault, .int m_place, .int m_trouble, .ref a_letters, .int m_failed, .int m_hasHouse, .ref a_r, .ref a_fresh, .ref a_st, .ref a_undone, .ref a_kept, .int m_undos, .int m_images, .ref a_from, .ref a_begin, .ref a_motor, .ref a_change, .ref a_startFrame, .ref a_changeFrame, .ref a_lostAt, .ref a_blackAt, .ref a_slips, .ref a_leftArc, .ref a_died, .ref a_arcs, .int m_bestSum, .int m_nearest, .int m_nearestTown, .ref a_there, .ref a_backAt, .ref a_sorted, .ref a_parts, .int m_seed1, .int m_darkNow])), (a_tape, .inl (g.2.2.1, 900, .inl d_tape)), (a_letters, .inl (g.2.2.1, 8, .inl d_letters)), (a_fresh, .inl (g.2.2.1, 311, .inl d_fresh))] (fun w => ∃ (m_at2 : Int32) (m_end2 : Int32) (m_failed2 : Int32) (m_fault2 : Int32) (d_fresh2 : Nat → Int32) (d_letters2 : Nat → Int32) (m_nameSize2 : Int32) (m_place2 : Int32) (m_token2 : Int32) (m_whole2 : Int32), IV m_end2 0 900 ∧ IV m_failed2 0 1 ∧ IV m_nameSize2 0 900 ∧ RInv d_fresh2 ∧ (m_end.toInt ≤ m_end2.toInt) ∧ (m_token2 = 2 → IV m_nameSize2 0 8) ∧ w = [(h0, .inr (11, [.int m_thrown, .ref a_tape, .int m_taped, .int m_size, .int m_at2, .int m_end2, .int m_token2, .int m_whole2, .int m_nameSize2, .int m_fault2, .int m_place2, .int m_trouble, .ref a_letters, .int m_failed2, .int m_hasHouse, .ref a_r, .ref a_fresh, .ref a_st, .ref a_undone, .ref a_kept, .int m_undos, .int m_images, .ref a_from, .ref a_begin, .ref a_motor, .ref a_change, .ref a_startFrame, .ref a_changeFrame, .ref a_lostAt, .ref a_blackAt, .ref a_slips, .ref a_leftArc, .ref a_died, .ref a_arcs, .int m_bestSum, .int m_nearest, .int m_nearestTown, .ref a_there, .ref a_backAt, .ref a_sorted, .ref a_parts, .int m_seed1, .int m_darkNow])), (a_tape, .inl (g.2.2.1, 900, .inl d_tape)), (a_letters, .inl (g.2.2.1, 8, .inl d_letters2)), (a_fresh, .inl (g.2.2.1, 311, .inl d_fresh2))]) := by
  refine cV.of (by decide) (Nat.le_of_ble_eq_true rfl) ?_
  intro p e s m args below meth c A X hr hi
  refine k_lveq [(0, .ref h0)] rfl ?_
  refine k_aload_n X dX11_manLine_0 0 rfl ?_
  refine k_get (ci := 11) X inlX11 rfl 13 (by decide) dX11_manLine_1 mw469 0 rfl rfl ?_
  refine k_if_eq 8 X dX11_manLine_4 (by decide) (fun h_1 => ?_) (fun h_1 => ?_)
  · skip
    have iv_2 : IV m_failed 0 0 := iv_meet hv_m_failed (iv_e h_1 (show IV 0 0 0 from (by decide))) (by decide) (by decide)
    have hc_3 := hc_0.resolve_left (fun q => iv_eqN q iv_2 (show IV 1 1 1 from (by decide)) (by decide))
    have j_4 : (d_fresh 11).toInt ≤ 3 := hc_3
    refine k_bipush (v := 114) X dX11_manLine_8 (by decide) ?_
    refine k_iconst (v := 3) X dX11_manLine_10 (by decide) ?_
    refine k_aload_n X dX11_manLine_11 0 rfl ?_
    refine k_get (ci := 11) X inlX11 rfl 16 (by decide) dX11_manLine_12 mw171 0 rfl rfl ?_
    refine k_bipush (v := 11) X dX11_manLine_15 (by decide) ?_
    refine k_iald X dX11_manLine_17 3 rfl (by unfold vp_in; decide) ?_
    refine k_nm (fun z_5 ez_5 => ?_)
    have i_6 : z_5.toInt = (d_fresh 11).toInt := by rw [ez_5]; rfl
    have iv_7 : IV z_5 0 3 := by have := rb_11 ez_5 hp_d_fresh; rw [IV]; omega
    refine k_imul X dX11_manLine_18 ?_
    refine k_nm (fun z_8 ez_8 => ?_)
    have i_9 : z_8.toInt = 3 * z_5.toInt := in_mul ez_8 (by decide) (by decide) iv_7 (by decide) (by decide)
    have iv_10 : IV z_8 0 9 := by have := (show IV 3 3 3 from (by decide)); have := iv_7; rw [IV, i_9]; omega
    refine k_iadd X dX11_manLine_19 ?_
    refine k_nm (fun z_11 ez_11 => ?_)
    have i_12 : z_11.toInt = 114 + z_8.toInt := in_add ez_11 (show IV 114 114 114 from (by decide)) iv_10 (by decide) (by decide)
    have iv_13 : IV z_11 114 123 := by have := (show IV 114 114 114 from (by decide)); have := iv_10; rw [IV, i_12]; omega
    refine k_istore_n [(1, .int z_11), (0, .ref h0)] X dX11_manLine_20 (by decide) rfl ?_
    refine k_aload_n X dX11_manLine_21 1 rfl ?_
    refine k_bipush (v := 12) X dX11_manLine_22 (by decide) ?_
    refine k_aload_n X dX11_manLine_24 1 rfl ?_
    refine k_get (ci := 11) X inlX11 rfl 16 (by decide) dX11_manLine_25 mw171 0 rfl rfl ?_
    refine k_bipush (v := 11) X dX11_manLine_28 (by decide) ?_
    refine k_iald X dX11_manLine_30 3 rfl (by unfold vp_in; decide) ?_
    refine k_to z_5 ez_5.symm ?_
    refine k_iadd X dX11_manLine_31 ?_
    refine k_nm (fun z_14 ez_14 => ?_)
    have i_15 : z_14.toInt = 12 + z_5.toInt := in_add ez_14 (show IV 12 12 12 from (by decide)) iv_7 (by decide) (by decide)
    have iv_16 : IV z_14 12 15 := by have := (show IV 12 12 12 from (by decide)); have := iv_7; rw [IV, i_15]; omega
    refine k_callVV (n := 1) (As := [.int z_14]) (st := []) X [(h0, .inr (11, [.int m_thrown, .ref a_tape, .int m_taped, .int m_size, .int m_at, .int m_end, .int m_token, .int m_whole, .int m_nameSize, .int m_fault, .int m_place, .int m_trouble, .ref a_letters, .int m_failed, .int m_hasHouse, .ref a_r, .ref a_fresh, .ref a_st, .ref a_undone, .ref a_kept, .int m_undos, .int m_images, .ref a_from, .ref a_begin, .ref a_motor, .ref a_change, .ref a_startFrame, .ref a_changeFrame, .ref a_lostAt, .ref a_blackAt, .ref a_slips, .ref a_leftArc, .ref a_died, .ref a_arcs, .int m_bestSum, .int m_nearest, .int m_nearestTown, .ref a_there, .ref a_backAt, .ref a_sorted, .ref a_parts, .int m_seed1, .int m_darkNow])), (a_tape, .inl (g.2.2.1, 900, .inl d_tape)), (a_letters, .inl (g.2.2.1, 8, .inl d_letters)), (a_fresh, .inl (g.2.2.1, 311, .inl d_fresh))] [] [0, 1, 2, 3] [] (m_newName l g h0 z_14 m_thrown a_tape m_taped m_size m_at m_end m_token m_whole m_nameSize m_fault m_place m_trouble a_letters m_failed m_hasHouse a_r a_fresh a_st a_undone a_kept m_undos m_images a_from a_begin a_motor a_change a_startFrame a_changeFrame a_lostAt a_blackAt a_slips a_leftArc a_died a_arcs m_bestSum m_nearest m_nearestTown a_there a_backAt a_sorted a_parts m_seed1 m_darkNow d_tape d_letters d_fresh (iv_w iv_16 (by decide) (by decide)) (iv_w hv_m_size (by decide) (by decide)) (iv_w hv_m_end (by decide) (by decide)) (iv_w hv_m_nameSize (by decide) (by decide)) (iv_w iv_2 (by decide) (by decide)) hp_d_fresh hc_1) dX11_manLine_32 mw551 mw552 mw553 mw5 mw554 rfl 11 rfl rfl 0 _ rfl (by unfold yOk; decide) rfl (Nat.le_of_ble_eq_true rfl) (Nat.le_of_ble_eq_true rfl) (Nat.le_of_ble_eq_true rfl) (Nat.le_of_ble_eq_true rfl) (Nat.le_of_ble_eq_true rfl) rfl rfl (by decide) rfl (by decide) (by decide) ?_
    rintro w ⟨m_at2_17, m_end2_18, m_failed2_19, m_fault2_20, d_fresh2_21, d_letters2_22, m_nameSize2_23, m_place2_24, m_token2_25, m_whole2_26, iv_28, iv_29, iv_30, hp_31, hq_32, hq_33, hk_34, rfl⟩
    refine k_ws [(h0, .inr (11, [.int m_thrown, .ref a_tape, .int m_taped, .int m_size, .int m_at2_17, .int m_end2_18, .int m_token2_25, .int m_whole2_26, .int m_nameSize2_23, .int m_fault2_20, .int m_place2_24, .int m_trouble, .ref a_letters, .int m_failed2_19, .int m_hasHouse, .ref a_r, .ref a_fresh, .ref a_st, .ref a_undone, .ref a_kept, .int m_undos, .int m_images, .ref a_from, .ref a_begin, .ref a_motor, .ref a_change, .ref a_startFrame, .ref a_changeFrame, .ref a_lostAt, .ref a_blackAt, .ref a_slips, .ref a_leftArc, .ref a_died, .ref a_arcs, .int m_bestSum, .int m_nearest, .int m_nearestTown, .ref a_there, .ref a_backAt, .ref a_sorted, .ref a_parts, .int m_seed1, .int m_darkNow])), (a_tape, .inl (g.2.2.1, 900, .inl d_tape)), (a_letters, .inl (g.2.2.1, 8, .inl d_letters2_22)), (a_fresh, .inl (g.2.2.1, 311, .inl d_fresh2_21))] rfl ?_
    have ek_35 : z_5 = d_fresh2_21 (11 : Int32).toNatClampNeg := ez_5.trans (hq_32 _ (by decide)).symm
    refine k_aload_n X dX11_manLine_35 1 rfl ?_
    refine k_ldcwS (tx := "clean") X dX11_manLine_36 (by decide +kernel) (fun sr_36 hsr_36 => ?_)
    refine k_callVI (n := 1) (As := [.ref sr_36]) (st := []) X [(h0, .inr (11, [.int m_thrown, .ref a_tape, .int m_taped, .int m_size, .int m_at2_17, .int m_end2_18, .int m_token2_25, .int m_whole2_26, .int m_nameSize2_23, .int m_fault2_20, .int m_place2_24, .int m_trouble, .ref a_letters, .int m_failed2_19, .int m_hasHouse, .ref a_r, .ref a_fresh, .ref a_st, .ref a_undone, .ref a_kept, .int m_undos, .int m_images, .ref a_from, .ref a_begin, .ref a_motor, .ref a_change, .ref a_startFrame, .ref a_changeFrame, .ref a_lostAt, .ref a_blackAt, .ref a_slips, .ref a_leftArc, .ref a_died, .ref a_arcs, .int m_bestSum, .int m_nearest, .int m_nearestTown, .ref a_there, .ref a_backAt, .ref a_sorted, .ref a_parts, .int m_seed1, .int m_darkNow])), (a_letters, .inl (g.2.2.1, 8, .inl d_letters2_22))] [(a_tape, .inl (g.2.2.1, 900, .inl d_tape)), (a_fresh, .inl (g.2.2.1, 311, .inl d_fresh2_21))] [0, 2] [1, 3] (m_isWord l g h0 sr_36 m_thrown a_tape m_taped m_size m_at2_17 m_end2_18 m_token2_25 m_whole2_26 m_nameSize2_23 m_fault2_20 m_place2_24 m_trouble a_letters m_failed2_19 m_hasHouse a_r a_fresh a_st a_undone a_kept m_undos m_images a_from a_begin a_motor a_change a_startFrame a_changeFrame a_lostAt a_blackAt a_slips a_leftArc a_died a_arcs m_bestSum m_nearest m_nearestTown a_there a_backAt a_sorted a_parts m_seed1 m_darkNow d_letters2_22 ("clean") (iv_w iv_30 (by decide) (by decide)) (iv_w iv_29 (by decide) (by decide)) hsr_36 hk_34) dX11_manLine_39 mw509 mw510 mw511 mw5 mw512 rfl 11 rfl rfl 0 _ rfl (by unfold yOk; decide) rfl (Nat.le_of_ble_eq_true rfl) (Nat.le_of_ble_eq_true rfl) (Nat.le_of_ble_eq_true rfl) (Nat.le_of_ble_eq_true rfl) (Nat.le_of_ble_eq_true rfl) rfl rfl (by decide) rfl (by decide) (by decide) ?_
    rintro r_37 w ⟨iv_38, hk_39, rfl⟩
    refine k_ws [(a_tape, .inl (g.2.2.1, 900, .inl d_tape)), (a_fresh, .inl (g.2.2.1, 311, .inl d_fresh2_21)), (h0, .inr (11, [.int m_thrown, .ref a_tape, .int m_taped, .int m_size, .int m_at2_17, .int m_end2_18, .int m_token2_25, .int m_whole2_26, .int m_nameSize2_23, .int m_fault2_20, .int m_place2_24, .int m_trouble, .ref a_letters, .int m_failed2_19, .int m_hasHouse, .ref a_r, .ref a_fresh, .ref a_st, .ref a_undone, .ref a_kept, .int m_undos, .int m_images, .ref a_from, .ref a_begin, .ref a_motor, .ref a_change, .ref a_startFrame, .ref a_changeFrame, .ref a_lostAt, .ref a_blackAt, .ref a_slips, .ref a_leftArc, .ref a_died, .ref a_arcs, .int m_bestSum, .int m_nearest, .int m_nearestTown, .ref a_there, .ref a_backAt, .ref a_sorted, .ref a_parts, .int m_seed1, .int m_darkNow])), (a_letters, .inl (g.2.2.1, 8, .inl d_letters2_22))] rfl ?_
    refine k_if_eq 49 X dX11_manLine_42 (by decide) (fun h_40 => ?_) (fun h_40 => ?_)
    · skip
      have iv_41 : IV r_37 0 0 := iv_meet iv_38 (iv_e h_40 (show IV 0 0 0 from (by decide))) (by decide) (by decide)
      refine k_aload_n X dX11_manLine_49 1 rfl ?_
      refine k_ldcwS (tx := "early") X dX11_manLine_50 (by decide +kernel) (fun sr_42 hsr_42 => ?_)
      refine k_callVI (n := 1) (As := [.ref sr_42]) (st := []) X [(h0, .inr (11, [.int m_thrown, .ref a_tape, .int m_taped, .int m_size, .int m_at2_17, .int m_end2_18, .int m_token2_25, .int m_whole2_26, .int m_nameSize2_23, .int m_fault2_20, .int m_place2_24, .int m_trouble, .ref a_letters, .int m_failed2_19, .int m_hasHouse, .ref a_r, .ref a_fresh, .ref a_st, .ref a_undone, .ref a_kept, .int m_undos, .int m_images, .ref a_from, .ref a_begin, .ref a_motor, .ref a_change, .ref a_startFrame, .ref a_changeFrame, .ref a_lostAt, .ref a_blackAt, .ref a_slips, .ref a_leftArc, .ref a_died, .ref a_arcs, .int m_bestSum, .int m_nearest, .int m_nearestTown, .ref a_there, .ref a_backAt, .ref a_sorted, .ref a_parts, .int m_seed1, .int m_darkNow])), (a_letters, .inl (g.2.2.1, 8, .inl d_letters2_22))] [(a_tape, .inl (g.2.2.1, 900, .inl d_tape)), (a_fresh, .inl (g.2.2.1, 311, .inl d_fresh2_21))] [2, 3] [0, 1] (m_isWord l g h0 sr_42 m_thrown a_tape m_taped m_size m_at2_17 m_end2_18 m_token2_25 m_whole2_26 m_nameSize2_23 m_fault2_20 m_place2_24 m_trouble a_letters m_failed2_19 m_hasHouse a_r a_fresh a_st a_undone a_kept m_undos m_images a_from a_begin a_motor a_change a_startFrame a_changeFrame a_lostAt a_blackAt a_slips a_leftArc a_died a_arcs m_bestSum m_nearest m_nearestTown a_there a_backAt a_sorted a_parts m_seed1 m_darkNow d_letters2_22 ("early") (iv_w iv_30 (by decide) (by decide)) (iv_w iv_29 (by decide) (by decide)) hsr_42 hk_34) dX11_manLine_53 mw509 mw510 mw511 mw5 mw512 rfl 11 rfl rfl 0 _ rfl (by unfold yOk; decide) rfl (Nat.le_of_ble_eq_true rfl) (Nat.le_of_ble_eq_true rfl) (Nat.le_of_ble_eq_true rfl) (Nat.le_of_ble_eq_true rfl) (Nat.le_of_ble_eq_true rfl) rfl rfl (by decide) rfl (by decide) (by decide) ?_
      rintro r_43 w ⟨iv_44, hk_45, rfl⟩
      refine k_ws [(a_tape, .inl (g.2.2.1, 900, .inl d_tape)), (a_fresh, .inl (g.2.2.1, 311, .inl d_fresh2_21)), (h0, .inr (11, [.int m_thrown, .ref a_tape, .int m_taped, .int m_size, .int m_at2_17, .int m_end2_18, .int m_token2_25, .int m_whole2_26, .int m_nameSize2_23, .int m_fault2_20, .int m_place2_24, .int m_trouble, .ref a_letters, .int m_failed2_19, .int m_hasHouse, .ref a_r, .ref a_fresh, .ref a_st, .ref a_undone, .ref a_kept, .int m_undos, .int m_images, .ref a_from, .ref a_begin, .ref a_motor, .ref a_change, .ref a_startFrame, .ref a_changeFrame, .ref a_lostAt, .ref a_blackAt, .ref a_slips, .ref a_leftArc, .ref a_died, .ref a_arcs, .int m_bestSum, .int m_nearest, .int m_nearestTown, .ref a_there, .ref a_backAt, .ref a_sorted, .ref a_parts, .int m_seed1, .int m_darkNow])), (a_letters, .inl (g.2.2.1, 8, .inl d_letters2_22))] rfl ?_
      refine k_if_eq 63 X dX11_manLine_56 (by decide) (fun h_46 => ?_) (fun h_46 => ?_)
      · skip
        have iv_47 : IV r_43 0 0 := iv_meet iv_44 (iv_e h_46 (show IV 0 0 0 from (by decide))) (by decide) (by decide)
        refine k_aload_n X dX11_manLine_63 1 rfl ?_
        refine k_ldcwS (tx := "late") X dX11_manLine_64 (by decide +kernel) (fun sr_48 hsr_48 => ?_)
        refine k_callVI (n := 1) (As := [.ref sr_48]) (st := []) X [(h0, .inr (11, [.int m_thrown, .ref a_tape, .int m_taped, .int m_size, .int m_at2_17, .int m_end2_18, .int m_token2_25, .int m_whole2_26, .int m_nameSize2_23, .int m_fault2_20, .int m_place2_24, .int m_trouble, .ref a_letters, .int m_failed2_19, .int m_hasHouse, .ref a_r, .ref a_fresh, .ref a_st, .ref a_undone, .ref a_kept, .int m_undos, .int m_images, .ref a_from, .ref a_begin, .ref a_motor, .ref a_change, .ref a_startFrame, .ref a_changeFrame, .ref a_lostAt, .ref a_blackAt, .ref a_slips, .ref a_leftArc, .ref a_died, .ref a_arcs, .int m_bestSum, .int m_nearest, .int m_nearestTown, .ref a_there, .ref a_backAt, .ref a_sorted, .ref a_parts, .int m_seed1, .int m_darkNow])), (a_letters, .inl (g.2.2.1, 8, .inl d_letters2_22))] [(a_tape, .inl (g.2.2.1, 900, .inl d_tape)), (a_fresh, .inl (g.2.2.1, 311, .inl d_fresh2_21))] [2, 3] [0, 1] (m_isWord l g h0 sr_48 m_thrown a_tape m_taped m_size m_at2_17 m_end2_18 m_token2_25 m_whole2_26 m_nameSize2_23 m_fault2_20 m_place2_24 m_trouble a_letters m_failed2_19 m_hasHouse a_r a_fresh a_st a_undone a_kept m_undos m_images a_from a_begin a_motor a_change a_startFrame a_changeFrame a_lostAt a_blackAt a_slips a_leftArc a_died a_arcs m_bestSum m_nearest m_nearestTown a_there a_backAt a_sorted a_parts m_seed1 m_darkNow d_letters2_22 ("late") (iv_w iv_30 (by decide) (by decide)) (iv_w iv_29 (by decide) (by decide)) hsr_48 hk_34) dX11_manLine_67 mw509 mw510 mw511 mw5 mw512 rfl 11 rfl rfl 0 _ rfl (by unfold yOk; decide) rfl (Nat.le_of_ble_eq_true rfl) (Nat.le_of_ble_eq_true rfl) (Nat.le_of_ble_eq_true rfl) (Nat.le_of_ble_eq_true rfl) (Nat.le_of_ble_eq_true rfl) rfl rfl (by decide) rfl (by decide) (by decide) ?_
        rintro r_49 w ⟨iv_50, hk_51, rfl⟩
        refine k_ws [(a_tape, .inl (g.2.2.1, 900, .inl d_tape)), (a_fresh, .inl (g.2.2.1, 311, .inl d_fresh2_21)), (h0, .inr (11, [.int m_thrown, .ref a_tape, .int m_taped, .int m_size, .int m_at2_17, .int m_end2_18, .int m_token2_25, .int m_whole2_26, .int m_nameSize2_23, .int m_fault2_20, .int m_place2_24, .int m_trouble, .ref a_letters, .int m_failed2_19, .int m_hasHouse, .ref a_r, .ref a_fresh, .ref a_st, .ref a_undone, .ref a_kept, .int m_undos, .int m_images, .ref a_from, .ref a_begin, .ref a_motor, .ref a_change, .ref a_startFrame, .ref a_changeFrame, .ref a_lostAt, .ref a_blackAt, .ref a_slips, .ref a_leftArc, .ref a_died, .ref a_arcs, .int m_bestSum, .int m_nearest, .int m_nearestTown, .ref a_there, .ref a_backAt, .ref a_sorted, .ref a_parts, .int m_seed1, .int m_darkNow])), (a_letters, .inl (g.2.2.1, 8, .inl d_letters2_22))] rfl ?_
        refine k_if_eq 77 X dX11_manLine_70 (by decide) (fun h_52 => ?_) (fun h_52 => ?_)
        · skip
          have iv_53 : IV r_49 0 0 := iv_meet iv_50 (iv_e h_52 (show IV 0 0 0 from (by decide))) (by decide) (by decide)
          refine k_aload_n X dX11_manLine_77 1 rfl ?_
          refine k_ldcwS (tx := "misled") X dX11_manLine_78 (by decide +kernel) (fun sr_54 hsr_54 => ?_)
          refine k_callVI (n := 1) (As := [.ref sr_54]) (st := []) X [(h0, .inr (11, [.int m_thrown, .ref a_tape, .int m_taped, .int m_size, .int m_at2_17, .int m_end2_18, .int m_token2_25, .int m_whole2_26, .int m_nameSize2_23, .int m_fault2_20, .int m_place2_24, .int m_trouble, .ref a_letters, .int m_failed2_19, .int m_hasHouse, .ref a_r, .ref a_fresh, .ref a_st, .ref a_undone, .ref a_kept, .int m_undos, .int m_images, .ref a_from, .ref a_begin, .ref a_motor, .ref a_change, .ref a_startFrame, .ref a_changeFrame, .ref a_lostAt, .ref a_blackAt, .ref a_slips, .ref a_leftArc, .ref a_died, .ref a_arcs, .int m_bestSum, .int m_nearest, .int m_nearestTown, .ref a_there, .ref a_backAt, .ref a_sorted, .ref a_parts, .int m_seed1, .int m_darkNow])), (a_letters, .inl (g.2.2.1, 8, .inl d_letters2_22))] [(a_tape, .inl (g.2.2.1, 900, .inl d_tape)), (a_fresh, .inl (g.2.2.1, 311, .inl d_fresh2_21))] [2, 3] [0, 1] (m_isWord l g h0 sr_54 m_thrown a_tape m_taped m_size m_at2_17 m_end2_18 m_token2_25 m_whole2_26 m_nameSize2_23 m_fault2_20 m_place2_24 m_trouble a_letters m_failed2_19 m_hasHouse a_r a_fresh a_st a_undone a_kept m_undos m_images a_from a_begin a_motor a_change a_startFrame a_changeFrame a_lostAt a_blackAt a_slips a_leftArc a_died a_arcs m_bestSum m_nearest m_nearestTown a_there a_backAt a_sorted a_parts m_seed1 m_darkNow d_letters2_22 ("misled") (iv_w iv_30 (by decide) (by decide)) (iv_w iv_29 (by decide) (by decide)) hsr_54 hk_34) dX11_manLine_81 mw509 mw510 mw511 mw5 mw512 rfl 11 rfl rfl 0 _ rfl (by unfold yOk; decide) rfl (Nat.le_of_ble_eq_true rfl) (Nat.le_of_ble_eq_true rfl) (Nat.le_of_ble_eq_true rfl) (Nat.le_of_ble_eq_true rfl) (Nat.le_of_ble_eq_true rfl) rfl rfl (by decide) rfl (by decide) (by decide) ?_
          rintro r_55 w ⟨iv_56, hk_57, rfl⟩
          refine k_ws [(a_tape, .inl (g.2.2.1, 900, .inl d_tape)), (a_fresh, .inl (g.2.2.1, 311, .inl d_fresh2_21)), (h0, .inr (11, [.int m_thrown, .ref a_tape, .int m_taped, .int m_size, .int m_at2_17, .int m_end2_18, .int m_token2_25, .int m_whole2_26, .int m_nameSize2_23, .int m_fault2_20, .int m_place2_24, .int m_trouble, .ref a_letters, .int m_failed2_19, .int m_hasHouse, .ref a_r, .ref a_fresh, .ref a_st, .ref a_undone, .ref a_kept, .int m_undos, .int m_images, .ref a_from, .ref a_begin, .ref a_motor, .ref a_change, .ref a_startFrame, .ref a_changeFrame, .ref a_lostAt, .ref a_blackAt, .ref a_slips, .ref a_leftArc, .ref a_died, .ref a_arcs, .int m_bestSum, .int m_nearest, .int m_nearestTown, .ref a_there, .ref a_backAt, .ref a_sorted, .ref a_parts, .int m_seed1, .int m_darkNow])), (a_letters, .inl (g.2.2.1, 8, .inl d_letters2_22))] rfl ?_
          refine k_if_eq 91 X dX11_manLine_84 (by decide) (fun h_58 => ?_) (fun h_58 => ?_)
          · skip
            have iv_59 : IV r_55 0 0 := iv_meet iv_56 (iv_e h_58 (show IV 0 0 0 from (by decide))) (by decide) (by decide)
            refine k_iconst (v := -1) X dX11_manLine_91 (by decide) ?_
            refine k_istore_n [(2, .int (-1)), (1, .int z_11), (0, .ref h0)] X dX11_manLine_92 (by decide) rfl ?_
            refine k_iload_n X dX11_manLine_93 0 rfl ?_
            refine k_if_ge 106 X dX11_manLine_94 (by decide) (fun h_60 => absurd h_60 (by decide)) (fun _ => ?_)
            refine k_aload_n X dX11_manLine_97 2 rfl ?_
            refine k_iconst (v := 1) X dX11_manLine_98 (by decide) ?_
            refine k_aload_n X dX11_manLine_99 2 rfl ?_
            refine k_get (ci := 11) X inlX11 rfl 4 (by decide) dX11_manLine_100 mw473 2 rfl rfl ?_
            refine k_callVV (n := 2) (As := [.int 1, .int m_at2_17]) (st := []) X [(h0, .inr (11, [.int m_thrown, .ref a_tape, .int m_taped, .int m_size, .int m_at2_17, .int m_end2_18, .int m_token2_25, .int m_whole2_26, .int m_nameSize2_23, .int m_fault2_20, .int m_place2_24, .int m_trouble, .ref a_letters, .int m_failed2_19, .int m_hasHouse, .ref a_r, .ref a_fresh, .ref a_st, .ref a_undone, .ref a_kept, .int m_undos, .int m_images, .ref a_from, .ref a_begin, .ref a_motor, .ref a_change, .ref a_startFrame, .ref a_changeFrame, .ref a_lostAt, .ref a_blackAt, .ref a_slips, .ref a_leftArc, .ref a_died, .ref a_arcs, .int m_bestSum, .int m_nearest, .int m_nearestTown, .ref a_there, .ref a_backAt, .ref a_sorted, .ref a_parts, .int m_seed1, .int m_darkNow]))] [(a_tape, .inl (g.2.2.1, 900, .inl d_tape)), (a_fresh, .inl (g.2.2.1, 311, .inl d_fresh2_21)), (a_letters, .inl (g.2.2.1, 8, .inl d_letters2_22))] [2] [0, 1, 3] (m_bad l g h0 1 m_at2_17 m_thrown a_tape m_taped m_size m_at2_17 m_end2_18 m_token2_25 m_whole2_26 m_nameSize2_23 m_fault2_20 m_place2_24 m_trouble a_letters m_failed2_19 m_hasHouse a_r a_fresh a_st a_undone a_kept m_undos m_images a_from a_begin a_motor a_change a_startFrame a_changeFrame a_lostAt a_blackAt a_slips a_leftArc a_died a_arcs m_bestSum m_nearest m_nearestTown a_there a_backAt a_sorted a_parts m_seed1 m_darkNow (iv_w iv_29 (by decide) (by decide))) dX11_manLine_103 mw519 mw520 mw521 mw5 mw522 rfl 11 rfl rfl 0 _ rfl (by unfold yOk; decide) rfl (Nat.le_of_ble_eq_true rfl) (Nat.le_of_ble_eq_true rfl) (Nat.le_of_ble_eq_true rfl) (Nat.le_of_ble_eq_true rfl) (Nat.le_of_ble_eq_true rfl) rfl rfl (by decide) rfl (by decide) (by decide) ?_
            rintro w ⟨m_failed2_61, m_fault2_62, m_place2_63, iv_65, rfl⟩
            refine k_ws [(a_tape, .inl (g.2.2.1, 900, .inl d_tape)), (a_fresh, .inl (g.2.2.1, 311, .inl d_fresh2_21)), (a_letters, .inl (g.2.2.1, 8, .inl d_letters2_22)), (h0, .inr (11, [.int m_thrown, .ref a_tape, .int m_taped, .int m_size, .int m_at2_17, .int m_end2_18, .int m_token2_25, .int m_whole2_26, .int m_nameSize2_23, .int m_fault2_62, .int m_place2_63, .int m_trouble, .ref a_letters, .int m_failed2_61, .int m_hasHouse, .ref a_r, .ref a_fresh, .ref a_st, .ref a_undone, .ref a_kept, .int m_undos, .int m_images, .ref a_from, .ref a_begin, .ref a_motor, .ref a_change, .ref a_startFrame, .ref a_changeFrame, .ref a_lostAt, .ref a_blackAt, .ref a_slips, .ref a_leftArc, .ref a_died, .ref a_arcs, .int m_bestSum, .int m_nearest, .int m_nearestTown, .ref a_there, .ref a_backAt, .ref a_sorted, .ref a_parts, .int m_seed1, .int m_darkNow]))] rfl ?_
            refine k_aload_n X dX11_manLine_106 2 rfl ?_
            refine k_get (ci := 11) X inlX11 rfl 13 (by decide) dX11_manLine_107 mw469 3 rfl rfl ?_
            refine k_if_eq 114 X dX11_manLine_110 (by decide) (fun h_66 => (iv_eqN h_66 iv_65 (show IV 0 0 0 from (by decide)) (by decide)).elim) (fun h_66 => ?_)
            exact k_vret X hr dX11_manLine_113 (Nat.le_of_ble_eq_true rfl) (Nat.le_of_ble_eq_true rfl) [3, 0, 2, 1] (by decide) rfl rfl ⟨m_at2_17, m_end2_18, m_failed2_61, m_fault2_62, d_fresh2_21, d_letters2_22, m_nameSize2_23, m_place2_63, m_token2_25, m_whole2_26, (iv_w iv_28 (by decide) (by decide)), (iv_w iv_65 (by decide) (by decide)), (iv_w iv_30 (by decide) (by decide)), hp_31, (by omega), hk_34, rfl⟩
          · skip
            have hc_67 := hk_57.resolve_left h_58
            have iv_68 : IV m_token2_25 2 2 := iv_meet (iv_any m_token2_25) hc_67.1 (by decide) (by decide)
            have hc_69 := hk_34 (iv_eq iv_68 (show IV 2 2 2 from (by decide)))
            have iv_70 : IV m_nameSize2_23 0 8 := iv_meet iv_30 hc_69 (by decide) (by decide)
            have iv_71 : IV m_failed2_19 0 0 := iv_meet iv_29 hc_67.2 (by decide) (by decide)
            have iv_72 : IV r_55 1 1 := iv_neL h_58 iv_56 (show IV 0 0 0 from (by decide)) (by decide)
            refine k_iconst (v := 3) X dX11_manLine_87 (by decide) ?_
            refine k_goto 92 X dX11_manLine_88 (by decide) ?_
            refine k_istore_n [(2, .int 3), (1, .int z_11), (0, .ref h0)] X dX11_manLine_92 (by decide) rfl ?_
            refine k_iload_n X dX11_manLine_93 0 rfl ?_
            refine k_if_ge 106 X dX11_manLine_94 (by decide) (fun _ => ?_) (fun h_73 => absurd (by decide) h_73)
            refine k_aload_n X dX11_manLine_106 2 rfl ?_
            refine k_get (ci := 11) X inlX11 rfl 13 (by decide) dX11_manLine_107 mw469 2 rfl rfl ?_
            refine k_if_eq 114 X dX11_manLine_110 (by decide) (fun h_74 => ?_) (fun h_74 => absurd (iv_eq iv_71 (show IV 0 0 0 from (by decide))) h_74)
            refine k_aload_n X dX11_manLine_114 2 rfl ?_
            refine k_callVV (n := 0) (As := []) (st := []) X [(h0, .inr (11, [.int m_thrown, .ref a_tape, .int m_taped, .int m_size, .int m_at2_17, .int m_end2_18, .int m_token2_25, .int m_whole2_26, .int m_nameSize2_23, .int m_fault2_20, .int m_place2_24, .int m_trouble, .ref a_letters, .int m_failed2_19, .int m_hasHouse, .ref a_r, .ref a_fresh, .ref a_st, .ref a_undone, .ref a_kept, .int m_undos, .int m_images, .ref a_from, .ref a_begin, .ref a_motor, .ref a_change, .ref a_startFrame, .ref a_changeFrame, .ref a_lostAt, .ref a_blackAt, .ref a_slips, .ref a_leftArc, .ref a_died, .ref a_arcs, .int m_bestSum, .int m_nearest, .int m_nearestTown, .ref a_there, .ref a_backAt, .ref a_sorted, .ref a_parts, .int m_seed1, .int m_darkNow])), (a_tape, .inl (g.2.2.1, 900, .inl d_tape)), (a_letters, .inl (g.2.2.1, 8, .inl d_letters2_22))] [(a_fresh, .inl (g.2.2.1, 311, .inl d_fresh2_21))] [2, 0, 3] [1] (m_next l g h0 m_thrown a_tape m_taped m_size m_at2_17 m_end2_18 m_token2_25 m_whole2_26 m_nameSize2_23 m_fault2_20 m_place2_24 m_trouble a_letters m_failed2_19 m_hasHouse a_r a_fresh a_st a_undone a_kept m_undos m_images a_from a_begin a_motor a_change a_startFrame a_changeFrame a_lostAt a_blackAt a_slips a_leftArc a_died a_arcs m_bestSum m_nearest m_nearestTown a_there a_backAt a_sorted a_parts m_seed1 m_darkNow d_tape d_letters2_22 (iv_w hv_m_size (by decide) (by decide)) (iv_w iv_28 (by decide) (by decide)) (iv_w iv_70 (by decide) (by decide))) dX11_manLine_115 mw489 mw490 mw491 mw5 mw492 rfl 11 rfl rfl 0 _ rfl (by unfold yOk; decide) rfl (Nat.le_of_ble_eq_true rfl) (Nat.le_of_ble_eq_true rfl) (Nat.le_of_ble_eq_true rfl) (Nat.le_of_ble_eq_true rfl) (Nat.le_of_ble_eq_true rfl) rfl rfl (by decide) rfl (by decide) (by decide) ?_
            rintro w ⟨m_at2_75, m_end2_76, d_letters2_77, m_nameSize2_78, m_token2_79, m_whole2_80, iv_82, iv_83, hq_84, hq_85, hk_86, rfl⟩
            refine k_ws [(a_fresh, .inl (g.2.2.1, 311, .inl d_fresh2_21)), (h0, .inr (11, [.int m_thrown, .ref a_tape, .int m_taped, .int m_size, .int m_at2_75, .int m_end2_76, .int m_token2_79, .int m_whole2_80, .int m_nameSize2_78, .int m_fault2_20, .int m_place2_24, .int m_trouble, .ref a_letters, .int m_failed2_19, .int m_hasHouse, .ref a_r, .ref a_fresh, .ref a_st, .ref a_undone, .ref a_kept, .int m_undos, .int m_images, .ref a_from, .ref a_begin, .ref a_motor, .ref a_change, .ref a_startFrame, .ref a_changeFrame, .ref a_lostAt, .ref a_blackAt, .ref a_slips, .ref a_leftArc, .ref a_died, .ref a_arcs, .int m_bestSum, .int m_nearest, .int m_nearestTown, .ref a_there, .ref a_backAt, .ref a_sorted, .ref a_parts, .int m_seed1, .int m_darkNow])), (a_tape, .inl (g.2.2.1, 900, .inl d_tape)), (a_letters, .inl (g.2.2.1, 8, .inl d_letters2_77))] rfl ?_
            refine k_iconst (v := 0) X dX11_manLine_118 (by decide) ?_
            refine k_istore_n [(3, .int 0), (2, .int 3), (1, .int z_11), (0, .ref h0)] X dX11_manLine_119 (by decide) rfl ?_
            refine k_iload_n X dX11_manLine_120 1 rfl ?_
            refine k_iconst (v := 3) X dX11_manLine_121 (by decide) ?_
            refine k_ic_ne 145 X dX11_manLine_122 (by decide) (fun h_87 => absurd h_87 (by decide)) (fun _ => ?_)
            refine k_aload_n X dX11_manLine_125 3 rfl ?_
            refine k_bipush (v := 8) X dX11_manLine_126 (by decide) ?_
            refine k_bipush (v := 11) X dX11_manLine_128 (by decide) ?_
            refine k_callVI (n := 2) (As := [.int 8, .int 11]) (st := []) X [(h0, .inr (11, [.int m_thrown, .ref a_tape, .int m_taped, .int m_size, .int m_at2_75, .int m_end2_76, .int m_token2_79, .int m_whole2_80, .int m_nameSize2_78, .int m_fault2_20, .int m_place2_24, .int m_trouble, .ref a_letters, .int m_failed2_19, .int m_hasHouse, .ref a_r, .ref a_fresh, .ref a_st, .ref a_undone, .ref a_kept, .int m_undos, .int m_images, .ref a_from, .ref a_begin, .ref a_motor, .ref a_change, .ref a_startFrame, .ref a_changeFrame, .ref a_lostAt, .ref a_blackAt, .ref a_slips, .ref a_leftArc, .ref a_died, .ref a_arcs, .int m_bestSum, .int m_nearest, .int m_nearestTown, .ref a_there, .ref a_backAt, .ref a_sorted, .ref a_parts, .int m_seed1, .int m_darkNow])), (a_letters, .inl (g.2.2.1, 8, .inl d_letters2_77)), (a_fresh, .inl (g.2.2.1, 311, .inl d_fresh2_21))] [(a_tape, .inl (g.2.2.1, 900, .inl d_tape))] [1, 3, 0] [2] (m_namedT l g h0 m_thrown a_tape m_taped m_size m_at2_75 m_end2_76 m_token2_79 m_whole2_80 m_nameSize2_78 m_fault2_20 m_place2_24 m_trouble a_letters m_failed2_19 m_hasHouse a_r a_fresh a_st a_undone a_kept m_undos m_images a_from a_begin a_motor a_change a_startFrame a_changeFrame a_lostAt a_blackAt a_slips a_leftArc a_died a_arcs m_bestSum m_nearest m_nearestTown a_there a_backAt a_sorted a_parts m_seed1 m_darkNow d_letters2_77 d_fresh2_21 (iv_w iv_83 (by decide) (by decide)) (iv_w iv_71 (by decide) (by decide)) hp_31 hk_86) dX11_manLine_130 mw575 mw576 mw577 mw5 mw578 rfl 11 rfl rfl 0 _ rfl (by unfold yOk; decide) rfl (Nat.le_of_ble_eq_true rfl) (Nat.le_of_ble_eq_true rfl) (Nat.le_of_ble_eq_true rfl) (Nat.le_of_ble_eq_true rfl) (Nat.le_of_ble_eq_true rfl) rfl rfl (by decide) rfl (by decide) (by decide) ?_
            rintro r_91 w ⟨m_failed2_88, m_fault2_89, m_place2_90, iv_92, iv_93, rfl⟩
            refine k_ws [(a_tape, .inl (g.2.2.1, 900, .inl d_tape)), (h0, .inr (11, [.int m_thrown, .ref a_tape, .int m_taped, .int m_size, .int m_at2_75, .int m_end2_76, .int m_token2_79, .int m_whole2_80, .int m_nameSize2_78, .int m_fault2_89, .int m_place2_90, .int m_trouble, .ref a_letters, .int m_failed2_88, .int m_hasHouse, .ref a_r, .ref a_fresh, .ref a_st, .ref a_undone, .ref a_kept, .int m_undos, .int m_images, .ref a_from, .ref a_begin, .ref a_motor, .ref a_change, .ref a_startFrame, .ref a_changeFrame, .ref a_lostAt, .ref a_blackAt, .ref a_slips, .ref a_leftArc, .ref a_died, .ref a_arcs, .int m_bestSum, .int m_nearest, .int m_nearestTown, .ref a_there, .ref a_backAt, .ref a_sorted, .ref a_parts, .int m_seed1, .int m_darkNow])), (a_letters, .inl (g.2.2.1, 8, .inl d_letters2_77)), (a_fresh, .inl (g.2.2.1, 311, .inl d_fresh2_21))] rfl ?_
            refine k_istore_n [(3, .int r_91), (2, .int 3), (1, .int z_11), (0, .ref h0)] X dX11_manLine_133 (by decide) rfl ?_
            refine k_aload_n X dX11_manLine_134 3 rfl ?_
            refine k_get (ci := 11) X inlX11 rfl 13 (by decide) dX11_manLine_135 mw469 1 rfl rfl ?_
            refine k_if_ne 145 X dX11_manLine_138 (by decide) (fun h_94 => ?_) (fun h_94 => ?_)
            · skip
              have iv_95 : IV m_failed2_88 1 1 := iv_neL h_94 iv_92 (show IV 0 0 0 from (by decide)) (by decide)
              refine k_aload_n X dX11_manLine_145 3 rfl ?_
              refine k_ldcwS (tx := "slip") X dX11_manLine_146 (by decide +kernel) (fun sr_96 hsr_96 => ?_)
              refine k_iconst (v := 0) X dX11_manLine_149 (by decide) ?_
              refine k_bipush (v := 40) X dX11_manLine_150 (by decide) ?_
              refine k_callVI (n := 3) (As := [.ref sr_96, .int 0, .int 40]) (st := []) X [(h0, .inr (11, [.int m_thrown, .ref a_tape, .int m_taped, .int m_size, .int m_at2_75, .int m_end2_76, .int m_token2_79, .int m_whole2_80, .int m_nameSize2_78, .int m_fault2_89, .int m_place2_90, .int m_trouble, .ref a_letters, .int m_failed2_88, .int m_hasHouse, .ref a_r, .ref a_fresh, .ref a_st, .ref a_undone, .ref a_kept, .int m_undos, .int m_images, .ref a_from, .ref a_begin, .ref a_motor, .ref a_change, .ref a_startFrame, .ref a_changeFrame, .ref a_lostAt, .ref a_blackAt, .ref a_slips, .ref a_leftArc, .ref a_died, .ref a_arcs, .int m_bestSum, .int m_nearest, .int m_nearestTown, .ref a_there, .ref a_backAt, .ref a_sorted, .ref a_parts, .int m_seed1, .int m_darkNow])), (a_tape, .inl (g.2.2.1, 900, .inl d_tape)), (a_letters, .inl (g.2.2.1, 8, .inl d_letters2_77))] [(a_fresh, .inl (g.2.2.1, 311, .inl d_fresh2_21))] [1, 0, 2] [3] (m_after l g h0 sr_96 0 40 m_thrown a_tape m_taped m_size m_at2_75 m_end2_76 m_token2_79 m_whole2_80 m_nameSize2_78 m_fault2_89 m_place2_90 m_trouble a_letters m_failed2_88 m_hasHouse a_r a_fresh a_st a_undone a_kept m_undos m_images a_from a_begin a_motor a_change a_startFrame a_changeFrame a_lostAt a_blackAt a_slips a_leftArc a_died a_arcs m_bestSum m_nearest m_nearestTown a_there a_backAt a_sorted a_parts m_seed1 m_darkNow d_tape d_letters2_77 ("slip") (iv_w hv_m_size (by decide) (by decide)) (iv_w iv_82 (by decide) (by decide)) (iv_w iv_83 (by decide) (by decide)) (iv_w iv_95 (by decide) (by decide)) hsr_96 hk_86) dX11_manLine_152 mw523 mw524 mw525 mw5 mw526 rfl 11 rfl rfl 0 _ rfl (by unfold yOk; decide) rfl (Nat.le_of_ble_eq_true rfl) (Nat.le_of_ble_eq_true rfl) (Nat.le_of_ble_eq_true rfl) (Nat.le_of_ble_eq_true rfl) (Nat.le_of_ble_eq_true rfl) rfl rfl (by decide) rfl (by decide) (by decide) ?_
              rintro r_106 w ⟨m_at2_97, m_end2_98, m_failed2_99, m_fault2_100, d_letters2_101, m_nameSize2_102, m_place2_103, m_token2_104, m_whole2_105, iv_107, iv_108, iv_109, hq_110, hq_111, hk_112, rfl⟩
              refine k_ws [(a_fresh, .inl (g.2.2.1, 311, .inl d_fresh2_21)), (h0, .inr (11, [.int m_thrown, .ref a_tape, .int m_taped, .int m_size, .int m_at2_97, .int m_end2_98, .int m_token2_104, .int m_whole2_105, .int m_nameSize2_102, .int m_fault2_100, .int m_place2_103, .int m_trouble, .ref a_letters, .int m_failed2_99, .int m_hasHouse, .ref a_r, .ref a_fresh, .ref a_st, .ref a_undone, .ref a_kept, .int m_undos, .int m_images, .ref a_from, .ref a_begin, .ref a_motor, .ref a_change, .ref a_startFrame, .ref a_changeFrame, .ref a_lostAt, .ref a_blackAt, .ref a_slips, .ref a_leftArc, .ref a_died, .ref a_arcs, .int m_bestSum, .int m_nearest, .int m_nearestTown, .ref a_there, .ref a_backAt, .ref a_sorted, .ref a_parts, .int m_seed1, .int m_darkNow])), (a_tape, .inl (g.2.2.1, 900, .inl d_tape)), (a_letters, .inl (g.2.2.1, 8, .inl d_letters2_101))] rfl ?_
              have e_113 : (0 : Int32).toInt = 0 := by decide
              have e_114 : (40 : Int32).toInt = 40 := by decide
              have iv_115 : IV r_106 0 40 := by have := (show IV 0 0 0 from (by decide)); have := (show IV 40 40 40 from (by decide)); rw [IV]; omega
              refine k_istore [(4, .int r_106), (3, .int r_91), (2, .int 3), (1, .int z_11), (0, .ref h0)] X dX11_manLine_155 (by decide) rfl ?_
              refine k_aload_n X dX11_manLine_157 4 rfl ?_
              refine k_get (ci := 11) X inlX11 rfl 13 (by decide) dX11_manLine_158 mw469 1 rfl rfl ?_
              refine k_if_eq 165 X dX11_manLine_161 (by decide) (fun h_116 => ?_) (fun h_116 => ?_)
              · skip
                have iv_117 : IV m_failed2_99 0 0 := iv_meet iv_108 (iv_e h_116 (show IV 0 0 0 from (by decide))) (by decide) (by decide)
                refine k_aload_n X dX11_manLine_165 4 rfl ?_
                refine k_get (ci := 11) X inlX11 rfl 16 (by decide) dX11_manLine_166 mw171 1 rfl rfl ?_
                refine k_iload_n X dX11_manLine_169 3 rfl ?_
                refine k_iload_n X dX11_manLine_170 2 rfl ?_
                refine k_iast [(a_fresh, .inl (g.2.2.1, 311, .inl (upd d_fresh2_21 (z_11 : Int32).toNatClampNeg 3))), (h0, .inr (11, [.int m_thrown, .ref a_tape, .int m_taped, .int m_size, .int m_at2_97, .int m_end2_98, .int m_token2_104, .int m_whole2_105, .int m_nameSize2_102, .int m_fault2_100, .int m_place2_103, .int m_trouble, .ref a_letters, .int m_failed2_99, .int m_hasHouse, .ref a_r, .ref a_fresh, .ref a_st, .ref a_undone, .ref a_kept, .int m_undos, .int m_images, .ref a_from, .ref a_begin, .ref a_motor, .ref a_change, .ref a_startFrame, .ref a_changeFrame, .ref a_lostAt, .ref a_blackAt, .ref a_slips, .ref a_leftArc, .ref a_died, .ref a_arcs, .int m_bestSum, .int m_nearest, .int m_nearestTown, .ref a_there, .ref a_backAt, .ref a_sorted, .ref a_parts, .int m_seed1, .int m_darkNow])), (a_tape, .inl (g.2.2.1, 900, .inl d_tape)), (a_letters, .inl (g.2.2.1, 8, .inl d_letters2_101))] X dX11_manLine_171 0 rfl (iv_in iv_13 (by decide) (by decide)) rfl ?_
                have i_120 : z_11.toInt = 114 + 3 * z_5.toInt := by omega
                refine (fun hg : ∀ fa_118 : Nat → Int32, RInv fa_118 → K16 d_fresh2_21 fa_118 → Wk p l e _ s m args below meth c _ A g _ _ _ [(a_fresh, .inl (g.2.2.1, 311, .inl fa_118)), (h0, .inr (11, [.int m_thrown, .ref a_tape, .int m_taped, .int m_size, .int m_at2_97, .int m_end2_98, .int m_token2_104, .int m_whole2_105, .int m_nameSize2_102, .int m_fault2_100, .int m_place2_103, .int m_trouble, .ref a_letters, .int m_failed2_99, .int m_hasHouse, .ref a_r, .ref a_fresh, .ref a_st, .ref a_undone, .ref a_kept, .int m_undos, .int m_images, .ref a_from, .ref a_begin, .ref a_motor, .ref a_change, .ref a_startFrame, .ref a_changeFrame, .ref a_lostAt, .ref a_blackAt, .ref a_slips, .ref a_leftArc, .ref a_died, .ref a_arcs, .int m_bestSum, .int m_nearest, .int m_nearestTown, .ref a_there, .ref a_backAt, .ref a_sorted, .ref a_parts, .int m_seed1, .int m_darkNow])), (a_tape, .inl (g.2.2.1, 900, .inl d_tape)), (a_letters, .inl (g.2.2.1, 8, .inl d_letters2_101))] _ _ _ => hg _ (w_fr_114_3 hp_31 i_120 (iv_w iv_7 (by decide) (by decide))) (k16_u (by have := iv_13; omega))) (fun fa_118 hR_119 hk_121 => ?_)
                have ek_122 : z_5 = fa_118 (11 : Int32).toNatClampNeg := ek_35.trans (hk_121 _ (by decide)).symm
                refine k_aload_n X dX11_manLine_172 4 rfl ?_
                refine k_get (ci := 11) X inlX11 rfl 16 (by decide) dX11_manLine_173 mw171 1 rfl rfl ?_
                refine k_iload_n X dX11_manLine_176 3 rfl ?_
                refine k_iconst (v := 1) X dX11_manLine_177 (by decide) ?_
                refine k_iadd X dX11_manLine_178 ?_
                refine k_nm (fun z_123 ez_123 => ?_)
                have i_124 : z_123.toInt = z_11.toInt + 1 := in_add ez_123 iv_13 (show IV 1 1 1 from (by decide)) (by decide) (by decide)
                have iv_125 : IV z_123 115 124 := by have := iv_13; have := (show IV 1 1 1 from (by decide)); rw [IV, i_124]; omega
                refine k_iload_n X dX11_manLine_179 1 rfl ?_
                refine k_iast [(a_fresh, .inl (g.2.2.1, 311, .inl (upd fa_118 (z_123 : Int32).toNatClampNeg r_91))), (h0, .inr (11, [.int m_thrown, .ref a_tape, .int m_taped, .int m_size, .int m_at2_97, .int m_end2_98, .int m_token2_104, .int m_whole2_105, .int m_nameSize2_102, .int m_fault2_100, .int m_place2_103, .int m_trouble, .ref a_letters, .int m_failed2_99, .int m_hasHouse, .ref a_r, .ref a_fresh, .ref a_st, .ref a_undone, .ref a_kept, .int m_undos, .int m_images, .ref a_from, .ref a_begin, .ref a_motor, .ref a_change, .ref a_startFrame, .ref a_changeFrame, .ref a_lostAt, .ref a_blackAt, .ref a_slips, .ref a_leftArc, .ref a_died, .ref a_arcs, .int m_bestSum, .int m_nearest, .int m_nearestTown, .ref a_there, .ref a_backAt, .ref a_sorted, .ref a_parts, .int m_seed1, .int m_darkNow])), (a_tape, .inl (g.2.2.1, 900, .inl d_tape)), (a_letters, .inl (g.2.2.1, 8, .inl d_letters2_101))] X dX11_manLine_180 0 rfl (iv_in iv_125 (by decide) (by decide)) rfl ?_
                have i_128 : z_123.toInt = 115 + 3 * z_5.toInt := by omega
                refine (fun hg : ∀ fa_126 : Nat → Int32, RInv fa_126 → K16 fa_118 fa_126 → Wk p l e _ s m args below meth c _ A g _ _ _ [(a_fresh, .inl (g.2.2.1, 311, .inl fa_126)), (h0, .inr (11, [.int m_thrown, .ref a_tape, .int m_taped, .int m_size, .int m_at2_97, .int m_end2_98, .int m_token2_104, .int m_whole2_105, .int m_nameSize2_102, .int m_fault2_100, .int m_place2_103, .int m_trouble, .ref a_letters, .int m_failed2_99, .int m_hasHouse, .ref a_r, .ref a_fresh, .ref a_st, .ref a_undone, .ref a_kept, .int m_undos, .int m_images, .ref a_from, .ref a_begin, .ref a_motor, .ref a_change, .ref a_startFrame, .ref a_changeFrame, .ref a_lostAt, .ref a_blackAt, .ref a_slips, .ref a_leftArc, .ref a_died, .ref a_arcs, .int m_bestSum, .int m_nearest, .int m_nearestTown, .ref a_there, .ref a_backAt, .ref a_sorted, .ref a_parts, .int m_seed1, .int m_darkNow])), (a_tape, .inl (g.2.2.1, 900, .inl d_tape)), (a_letters, .inl (g.2.2.1, 8, .inl d_letters2_101))] _ _ _ => hg _ (w_fr_115_3 hR_119 i_128 (iv_w iv_7 (by decide) (by decide))) (k16_u (by have := iv_125; omega))) (fun fa_126 hR_127 hk_129 => ?_)
                have ek_130 : z_5 = fa_126 (11 : Int32).toNatClampNeg := ek_122.trans (hk_129 _ (by decide)).symm
                refine k_aload_n X dX11_manLine_181 4 rfl ?_
                refine k_get (ci := 11) X inlX11 rfl 16 (by decide) dX11_manLine_182 mw171 1 rfl rfl ?_
                refine k_iload_n X dX11_manLine_185 3 rfl ?_
                refine k_iconst (v := 2) X dX11_manLine_186 (by decide) ?_
                refine k_iadd X dX11_manLine_187 ?_
                refine k_nm (fun z_131 ez_131 => ?_)
                have i_132 : z_131.toInt = z_11.toInt + 2 := in_add ez_131 iv_13 (show IV 2 2 2 from (by decide)) (by decide) (by decide)
                have iv_133 : IV z_131 116 125 := by have := iv_13; have := (show IV 2 2 2 from (by decide)); rw [IV, i_132]; omega
                refine k_iload X dX11_manLine_188 0 rfl ?_
                refine k_iast [(a_fresh, .inl (g.2.2.1, 311, .inl (upd fa_126 (z_131 : Int32).toNatClampNeg r_106))), (h0, .inr (11, [.int m_thrown, .ref a_tape, .int m_taped, .int m_size, .int m_at2_97, .int m_end2_98, .int m_token2_104, .int m_whole2_105, .int m_nameSize2_102, .int m_fault2_100, .int m_place2_103, .int m_trouble, .ref a_letters, .int m_failed2_99, .int m_hasHouse, .ref a_r, .ref a_fresh, .ref a_st, .ref a_undone, .ref a_kept, .int m_undos, .int m_images, .ref a_from, .ref a_begin, .ref a_motor, .ref a_change, .ref a_startFrame, .ref a_changeFrame, .ref a_lostAt, .ref a_blackAt, .ref a_slips, .ref a_leftArc, .ref a_died, .ref a_arcs, .int m_bestSum, .int m_nearest, .int m_nearestTown, .ref a_there, .ref a_backAt, .ref a_sorted, .ref a_parts, .int m_seed1, .int m_darkNow])), (a_tape, .inl (g.2.2.1, 900, .inl d_tape)), (a_letters, .inl (g.2.2.1, 8, .inl d_letters2_101))] X dX11_manLine_190 0 rfl (iv_in iv_133 (by decide) (by decide)) rfl ?_
                have i_136 : z_131.toInt = 116 + 3 * z_5.toInt := by omega
                refine (fun hg : ∀ fa_134 : Nat → Int32, RInv fa_134 → K16 fa_126 fa_134 → Wk p l e _ s m args below meth c _ A g _ _ _ [(a_fresh, .inl (g.2.2.1, 311, .inl fa_134)), (h0, .inr (11, [.int m_thrown, .ref a_tape, .int m_taped, .int m_size, .int m_at2_97, .int m_end2_98, .int m_token2_104, .int m_whole2_105, .int m_nameSize2_102, .int m_fault2_100, .int m_place2_103, .int m_trouble, .ref a_letters, .int m_failed2_99, .int m_hasHouse, .ref a_r, .ref a_fresh, .ref a_st, .ref a_undone, .ref a_kept, .int m_undos, .int m_images, .ref a_from, .ref a_begin, .ref a_motor, .ref a_change, .ref a_startFrame, .ref a_changeFrame, .ref a_lostAt, .ref a_blackAt, .ref a_slips, .ref a_leftArc, .ref a_died, .ref a_arcs, .int m_bestSum, .int m_nearest, .int m_nearestTown, .ref a_there, .ref a_backAt, .ref a_sorted, .ref a_parts, .int m_seed1, .int m_darkNow])), (a_tape, .inl (g.2.2.1, 900, .inl d_tape)), (a_letters, .inl (g.2.2.1, 8, .inl d_letters2_101))] _ _ _ => hg _ (w_rb_116_3 hR_127 i_136 (iv_w iv_7 (by decide) (by decide)) (iv_w iv_115 (by decide) (by decide))) (k16_u (by have := iv_133; omega))) (fun fa_134 hR_135 hk_137 => ?_)
                have ek_138 : z_5 = fa_134 (11 : Int32).toNatClampNeg := ek_130.trans (hk_137 _ (by decide)).symm
                refine k_aload_n X dX11_manLine_191 4 rfl ?_
                refine k_get (ci := 11) X inlX11 rfl 16 (by decide) dX11_manLine_192 mw171 1 rfl rfl ?_
                refine k_bipush (v := 11) X dX11_manLine_195 (by decide) ?_
                refine k_dup2 X dX11_manLine_197 rfl rfl ?_
                refine k_iald X dX11_manLine_198 0 rfl (by unfold vp_in; decide) ?_
                refine k_to z_5 ek_138.symm ?_
                refine k_iconst (v := 1) X dX11_manLine_199 (by decide) ?_
                refine k_iadd X dX11_manLine_200 ?_
                refine k_nm (fun z_139 ez_139 => ?_)
                have i_140 : z_139.toInt = z_5.toInt + 1 := in_add ez_139 iv_7 (show IV 1 1 1 from (by decide)) (by decide) (by decide)
                have iv_141 : IV z_139 1 4 := by have := iv_7; have := (show IV 1 1 1 from (by decide)); rw [IV, i_140]; omega
                refine k_iast [(a_fresh, .inl (g.2.2.1, 311, .inl (upd fa_134 (11 : Int32).toNatClampNeg z_139))), (h0, .inr (11, [.int m_thrown, .ref a_tape, .int m_taped, .int m_size, .int m_at2_97, .int m_end2_98, .int m_token2_104, .int m_whole2_105, .int m_nameSize2_102, .int m_fault2_100, .int m_place2_103, .int m_trouble, .ref a_letters, .int m_failed2_99, .int m_hasHouse, .ref a_r, .ref a_fresh, .ref a_st, .ref a_undone, .ref a_kept, .int m_undos, .int m_images, .ref a_from, .ref a_begin, .ref a_motor, .ref a_change, .ref a_startFrame, .ref a_changeFrame, .ref a_lostAt, .ref a_blackAt, .ref a_slips, .ref a_leftArc, .ref a_died, .ref a_arcs, .int m_bestSum, .int m_nearest, .int m_nearestTown, .ref a_there, .ref a_backAt, .ref a_sorted, .ref a_parts, .int m_seed1, .int m_darkNow])), (a_tape, .inl (g.2.2.1, 900, .inl d_tape)), (a_letters, .inl (g.2.2.1, 8, .inl d_letters2_101))] X dX11_manLine_201 0 rfl (by unfold vp_in; decide) rfl ?_
                refine (fun hg : ∀ fa_142 : Nat → Int32, RInv fa_142 → Wk p l e _ s m args below meth c _ A g _ _ _ [(a_fresh, .inl (g.2.2.1, 311, .inl fa_142)), (h0, .inr (11, [.int m_thrown, .ref a_tape, .int m_taped, .int m_size, .int m_at2_97, .int m_end2_98, .int m_token2_104, .int m_whole2_105, .int m_nameSize2_102, .int m_fault2_100, .int m_place2_103, .int m_trouble, .ref a_letters, .int m_failed2_99, .int m_hasHouse, .ref a_r, .ref a_fresh, .ref a_st, .ref a_undone, .ref a_kept, .int m_undos, .int m_images, .ref a_from, .ref a_begin, .ref a_motor, .ref a_change, .ref a_startFrame, .ref a_changeFrame, .ref a_lostAt, .ref a_blackAt, .ref a_slips, .ref a_leftArc, .ref a_died, .ref a_arcs, .int m_bestSum, .int m_nearest, .int m_nearestTown, .ref a_there, .ref a_backAt, .ref a_sorted, .ref a_parts, .int m_seed1, .int m_darkNow])), (a_tape, .inl (g.2.2.1, 900, .inl d_tape)), (a_letters, .inl (g.2.2.1, 8, .inl d_letters2_101))] _ _ _ => hg _ (w_rb_11 hR_135 (iv_w iv_141 (by decide) (by decide)))) (fun fa_142 hR_143 => ?_)
                exact k_vret X hr dX11_manLine_202 (Nat.le_of_ble_eq_true rfl) (Nat.le_of_ble_eq_true rfl) [1, 2, 3, 0] (by decide) rfl rfl ⟨m_at2_97, m_end2_98, m_failed2_99, m_fault2_100, fa_142, d_letters2_101, m_nameSize2_102, m_place2_103, m_token2_104, m_whole2_105, (iv_w iv_107 (by decide) (by decide)), (iv_w iv_117 (by decide) (by decide)), (iv_w iv_109 (by decide) (by decide)), hR_143, (by omega), hk_112, rfl⟩
              · skip
                have iv_145 : IV m_failed2_99 1 1 := iv_neL h_116 iv_108 (show IV 0 0 0 from (by decide)) (by decide)
                exact k_vret X hr dX11_manLine_164 (Nat.le_of_ble_eq_true rfl) (Nat.le_of_ble_eq_true rfl) [1, 2, 3, 0] (by decide) rfl rfl ⟨m_at2_97, m_end2_98, m_failed2_99, m_fault2_100, d_fresh2_21, d_letters2_101, m_nameSize2_102, m_place2_103, m_token2_104, m_whole2_105, (iv_w iv_107 (by decide) (by decide)), (iv_w iv_145 (by decide) (by decide)), (iv_w iv_109 (by decide) (by decide)), hp_31, (by omega), hk_112, rfl⟩
            · skip
              have iv_146 : IV m_failed2_88 0 0 := iv_meet iv_92 (iv_e h_94 (show IV 0 0 0 from (by decide))) (by decide) (by decide)
              refine k_aload_n X dX11_manLine_141 3 rfl ?_
              refine k_callVV (n := 0) (As := []) (st := []) X [(h0, .inr (11, [.int m_thrown, .ref a_tape, .int m_taped, .int m_size, .int m_at2_75, .int m_end2_76, .int m_token2_79, .int m_whole2_80, .int m_nameSize2_78, .int m_fault2_89, .int m_place2_90, .int m_trouble, .ref a_letters, .int m_failed2_88, .int m_hasHouse, .ref a_r, .ref a_fresh, .ref a_st, .ref a_undone, .ref a_kept, .int m_undos, .int m_images, .ref a_from, .ref a_begin, .ref a_motor, .ref a_change, .ref a_startFrame, .ref a_changeFrame, .ref a_lostAt, .ref a_blackAt, .ref a_slips, .ref a_leftArc, .ref a_died, .ref a_arcs, .int m_bestSum, .int m_nearest, .int m_nearestTown, .ref a_there, .ref a_backAt, .ref a_sorted, .ref a_parts, .int m_seed1, .int m_darkNow])), (a_tape, .inl (g.2.2.1, 900, .inl d_tape)), (a_letters, .inl (g.2.2.1, 8, .inl d_letters2_77))] [(a_fresh, .inl (g.2.2.1, 311, .inl d_fresh2_21))] [1, 0, 2] [3] (m_next l g h0 m_thrown a_tape m_taped m_size m_at2_75 m_end2_76 m_token2_79 m_whole2_80 m_nameSize2_78 m_fault2_89 m_place2_90 m_trouble a_letters m_failed2_88 m_hasHouse a_r a_fresh a_st a_undone a_kept m_undos m_images a_from a_begin a_motor a_change a_startFrame a_changeFrame a_lostAt a_blackAt a_slips a_leftArc a_died a_arcs m_bestSum m_nearest m_nearestTown a_there a_backAt a_sorted a_parts m_seed1 m_darkNow d_tape d_letters2_77 (iv_w hv_m_size (by decide) (by decide)) (iv_w iv_82 (by decide) (by decide)) (iv_w iv_83 (by decide) (by decide))) dX11_manLine_142 mw489 mw490 mw491 mw5 mw492 rfl 11 rfl rfl 0 _ rfl (by unfold yOk; decide) rfl (Nat.le_of_ble_eq_true rfl) (Nat.le_of_ble_eq_true rfl) (Nat.le_of_ble_eq_true rfl) (Nat.le_of_ble_eq_true rfl) (Nat.le_of_ble_eq_true rfl) rfl rfl (by decide) rfl (by decide) (by decide) ?_
              rintro w ⟨m_at2_147, m_end2_148, d_letters2_149, m_nameSize2_150, m_token2_151, m_whole2_152, iv_154, iv_155, hq_156, hq_157, hk_158, rfl⟩
              refine k_ws [(a_fresh, .inl (g.2.2.1, 311, .inl d_fresh2_21)), (h0, .inr (11, [.int m_thrown, .ref a_tape, .int m_taped, .int m_size, .int m_at2_147, .int m_end2_148, .int m_token2_151, .int m_whole2_152, .int m_nameSize2_150, .int m_fault2_89, .int m_place2_90, .int m_trouble, .ref a_letters, .int m_failed2_88, .int m_hasHouse, .ref a_r, .ref a_fresh, .ref a_st, .ref a_undone, .ref a_kept, .int m_undos, .int m_images, .ref a_from, .ref a_begin, .ref a_motor, .ref a_change, .ref a_startFrame, .ref a_changeFrame, .ref a_lostAt, .ref a_blackAt, .ref a_slips, .ref a_leftArc, .ref a_died, .ref a_arcs, .int m_bestSum, .int m_nearest, .int m_nearestTown, .ref a_there, .ref a_backAt, .ref a_sorted, .ref a_parts, .int m_seed1, .int m_darkNow])), (a_tape, .inl (g.2.2.1, 900, .inl d_tape)), (a_letters, .inl (g.2.2.1, 8, .inl d_letters2_149))] rfl ?_
              refine k_aload_n X dX11_manLine_145 3 rfl ?_
              refine k_ldcwS (tx := "slip") X dX11_manLine_146 (by decide +kernel) (fun sr_159 hsr_159 => ?_)
              refine k_iconst (v := 0) X dX11_manLine_149 (by decide) ?_
              refine k_bipush (v := 40) X dX11_manLine_150 (by decide) ?_
              refine k_callVI (n := 3) (As := [.ref sr_159, .int 0, .int 40]) (st := []) X [(h0, .inr (11, [.int m_thrown, .ref a_tape, .int m_taped, .int m_size, .int m_at2_147, .int m_end2_148, .int m_token2_151, .int m_whole2_152, .int m_nameSize2_150, .int m_fault2_89, .int m_place2_90, .int m_trouble, .ref a_letters, .int m_failed2_88, .int m_hasHouse, .ref a_r, .ref a_fresh, .ref a_st, .ref a_undone, .ref a_kept, .int m_undos, .int m_images, .ref a_from, .ref a_begin, .ref a_motor, .ref a_change, .ref a_startFrame, .ref a_changeFrame, .ref a_lostAt, .ref a_blackAt, .ref a_slips, .ref a_leftArc, .ref a_died, .ref a_arcs, .int m_bestSum, .int m_nearest, .int m_nearestTown, .ref a_there, .ref a_backAt, .ref a_sorted, .ref a_parts, .int m_seed1, .int m_darkNow])), (a_tape, .inl (g.2.2.1, 900, .inl d_tape)), (a_letters, .inl (g.2.2.1, 8, .inl d_letters2_149))] [(a_fresh, .inl (g.2.2.1, 311, .inl d_fresh2_21))] [1, 2, 3] [0] (m_after l g h0 sr_159 0 40 m_thrown a_tape m_taped m_size m_at2_147 m_end2_148 m_token2_151 m_whole2_152 m_nameSize2_150 m_fault2_89 m_place2_90 m_trouble a_letters m_failed2_88 m_hasHouse a_r a_fresh a_st a_undone a_kept m_undos m_images a_from a_begin a_motor a_change a_startFrame a_changeFrame a_lostAt a_blackAt a_slips a_leftArc a_died a_arcs m_bestSum m_nearest m_nearestTown a_there a_backAt a_sorted a_parts m_seed1 m_darkNow d_tape d_letters2_149 ("slip") (iv_w hv_m_size (by decide) (by decide)) (iv_w iv_154 (by decide) (by decide)) (iv_w iv_155 (by decide) (by decide)) (iv_w iv_146 (by decide) (by decide)) hsr_159 hk_158) dX11_manLine_152 mw523 mw524 mw525 mw5 mw526 rfl 11 rfl rfl 0 _ rfl (by unfold yOk; decide) rfl (Nat.le_of_ble_eq_true rfl) (Nat.le_of_ble_eq_true rfl) (Nat.le_of_ble_eq_true rfl) (Nat.le_of_ble_eq_true rfl) (Nat.le_of_ble_eq_true rfl) rfl rfl (by decide) rfl (by decide) (by decide) ?_
              rintro r_169 w ⟨m_at2_160, m_end2_161, m_failed2_162, m_fault2_163, d_letters2_164, m_nameSize2_165, m_place2_166, m_token2_167, m_whole2_168, iv_170, iv_171, iv_172, hq_173, hq_174, hk_175, rfl⟩
              refine k_ws [(a_fresh, .inl (g.2.2.1, 311, .inl d_fresh2_21)), (h0, .inr (11, [.int m_thrown, .ref a_tape, .int m_taped, .int m_size, .int m_at2_160, .int m_end2_161, .int m_token2_167, .int m_whole2_168, .int m_nameSize2_165, .int m_fault2_163, .int m_place2_166, .int m_trouble, .ref a_letters, .int m_failed2_162, .int m_hasHouse, .ref a_r, .ref a_fresh, .ref a_st, .ref a_undone, .ref a_kept, .int m_undos, .int m_images, .ref a_from, .ref a_begin, .ref a_motor, .ref a_change, .ref a_startFrame, .ref a_changeFrame, .ref a_lostAt, .ref a_blackAt, .ref a_slips, .ref a_leftArc, .ref a_died, .ref a_arcs, .int m_bestSum, .int m_nearest, .int m_nearestTown, .ref a_there, .ref a_backAt, .ref a_sorted, .ref a_parts, .int m_seed1, .int m_darkNow])), (a_tape, .inl (g.2.2.1, 900, .inl d_tape)), (a_letters, .inl (g.2.2.1, 8, .inl d_letters2_164))] rfl ?_
              have e_176 : (0 : Int32).toInt = 0 := by decide
              have e_177 : (40 : Int32).toInt = 40 := by decide
              have iv_178 : IV r_169 0 40 := by have := (show IV 0 0 0 from (by decide)); have := (show IV 40 40 40 from (by decide)); rw [IV]; omega
              refine k_istore [(4, .int r_169), (3, .int r_91), (2, .int 3), (1, .int z_11), (0, .ref h0)] X dX11_manLine_155 (by decide) rfl ?_
              refine k_aload_n X dX11_manLine_157 4 rfl ?_
              refine k_get (ci := 11) X inlX11 rfl 13 (by decide) dX11_manLine_158 mw469 1 rfl rfl ?_
              refine k_if_eq 165 X dX11_manLine_161 (by decide) (fun h_179 => ?_) (fun h_179 => ?_)
              · skip
                have iv_180 : IV m_failed2_162 0 0 := iv_meet iv_171 (iv_e h_179 (show IV 0 0 0 from (by decide))) (by decide) (by decide)
                refine k_aload_n X dX11_manLine_165 4 rfl ?_
                refine k_get (ci := 11) X inlX11 rfl 16 (by decide) dX11_manLine_166 mw171 1 rfl rfl ?_
                refine k_iload_n X dX11_manLine_169 3 rfl ?_
                refine k_iload_n X dX11_manLine_170 2 rfl ?_
                refine k_iast [(a_fresh, .inl (g.2.2.1, 311, .inl (upd d_fresh2_21 (z_11 : Int32).toNatClampNeg 3))), (h0, .inr (11, [.int m_thrown, .ref a_tape, .int m_taped, .int m_size, .int m_at2_160, .int m_end2_161, .int m_token2_167, .int m_whole2_168, .int m_nameSize2_165, .int m_fault2_163, .int m_place2_166, .int m_trouble, .ref a_letters, .int m_failed2_162, .int m_hasHouse, .ref a_r, .ref a_fresh, .ref a_st, .ref a_undone, .ref a_kept, .int m_undos, .int m_images, .ref a_from, .ref a_begin, .ref a_motor, .ref a_change, .ref a_startFrame, .ref a_changeFrame, .ref a_lostAt, .ref a_blackAt, .ref a_slips, .ref a_leftArc, .ref a_died, .ref a_arcs, .int m_bestSum, .int m_nearest, .int m_nearestTown, .ref a_there, .ref a_backAt, .ref a_sorted, .ref a_parts, .int m_seed1, .int m_darkNow])), (a_tape, .inl (g.2.2.1, 900, .inl d_tape)), (a_letters, .inl (g.2.2.1, 8, .inl d_letters2_164))] X dX11_manLine_171 0 rfl (iv_in iv_13 (by decide) (by decide)) rfl ?_
                have i_183 : z_11.toInt = 114 + 3 * z_5.toInt := by omega
                refine (fun hg : ∀ fa_181 : Nat → Int32, RInv fa_181 → K16 d_fresh2_21 fa_181 → Wk p l e _ s m args below meth c _ A g _ _ _ [(a_fresh, .inl (g.2.2.1, 311, .inl fa_181)), (h0, .inr (11, [.int m_thrown, .ref a_tape, .int m_taped, .int m_size, .int m_at2_160, .int m_end2_161, .int m_token2_167, .int m_whole2_168, .int m_nameSize2_165, .int m_fault2_163, .int m_place2_166, .int m_trouble, .ref a_letters, .int m_failed2_162, .int m_hasHouse, .ref a_r, .ref a_fresh, .ref a_st, .ref a_undone, .ref a_kept, .int m_undos, .int m_images, .ref a_from, .ref a_begin, .ref a_motor, .ref a_change, .ref a_startFrame, .ref a_changeFrame, .ref a_lostAt, .ref a_blackAt, .ref a_slips, .ref a_leftArc, .ref a_died, .ref a_arcs, .int m_bestSum, .int m_nearest, .int m_nearestTown, .ref a_there, .ref a_backAt, .ref a_sorted, .ref a_parts, .int m_seed1, .int m_darkNow])), (a_tape, .inl (g.2.2.1, 900, .inl d_tape)), (a_letters, .inl (g.2.2.1, 8, .inl d_letters2_164))] _ _ _ => hg _ (w_fr_114_3 hp_31 i_183 (iv_w iv_7 (by decide) (by decide))) (k16_u (by have := iv_13; omega))) (fun fa_181 hR_182 hk_184 => ?_)
                have ek_185 : z_5 = fa_181 (11 : Int32).toNatClampNeg := ek_35.trans (hk_184 _ (by decide)).symm
                refine k_aload_n X dX11_manLine_172 4 rfl ?_
                refine k_get (ci := 11) X inlX11 rfl 16 (by decide) dX11_manLine_173 mw171 1 rfl rfl ?_
                refine k_iload_n X dX11_manLine_176 3 rfl ?_
                refine k_iconst (v := 1) X dX11_manLine_177 (by decide) ?_
                refine k_iadd X dX11_manLine_178 ?_
                refine k_nm (fun z_186 ez_186 => ?_)
                have i_187 : z_186.toInt = z_11.toInt + 1 := in_add ez_186 iv_13 (show IV 1 1 1 from (by decide)) (by decide) (by decide)
                have iv_188 : IV z_186 115 124 := by have := iv_13; have := (show IV 1 1 1 from (by decide)); rw [IV, i_187]; omega
                refine k_iload_n X dX11_manLine_179 1 rfl ?_
                refine k_iast [(a_fresh, .inl (g.2.2.1, 311, .inl (upd fa_181 (z_186 : Int32).toNatClampNeg r_91))), (h0, .inr (11, [.int m_thrown, .ref a_tape, .int m_taped, .int m_size, .int m_at2_160, .int m_end2_161, .int m_token2_167, .int m_whole2_168, .int m_nameSize2_165, .int m_fault2_163, .int m_place2_166, .int m_trouble, .ref a_letters, .int m_failed2_162, .int m_hasHouse, .ref a_r, .ref a_fresh, .ref a_st, .ref a_undone, .ref a_kept, .int m_undos, .int m_images, .ref a_from, .ref a_begin, .ref a_motor, .ref a_change, .ref a_startFrame, .ref a_changeFrame, .ref a_lostAt, .ref a_blackAt, .ref a_slips, .ref a_leftArc, .ref a_died, .ref a_arcs, .int m_bestSum, .int m_nearest, .int m_nearestTown, .ref a_there, .ref a_backAt, .ref a_sorted, .ref a_parts, .int m_seed1, .int m_darkNow])), (a_tape, .inl (g.2.2.1, 900, .inl d_tape)), (a_letters, .inl (g.2.2.1, 8, .inl d_letters2_164))] X dX11_manLine_180 0 rfl (iv_in iv_188 (by decide) (by decide)) rfl ?_
                have i_191 : z_186.toInt = 115 + 3 * z_5.toInt := by omega
                refine (fun hg : ∀ fa_189 : Nat → Int32, RInv fa_189 → K16 fa_181 fa_189 → Wk p l e _ s m args below meth c _ A g _ _ _ [(a_fresh, .inl (g.2.2.1, 311, .inl fa_189)), (h0, .inr (11, [.int m_thrown, .ref a_tape, .int m_taped, .int m_size, .int m_at2_160, .int m_end2_161, .int m_token2_167, .int m_whole2_168, .int m_nameSize2_165, .int m_fault2_163, .int m_place2_166, .int m_trouble, .ref a_letters, .int m_failed2_162, .int m_hasHouse, .ref a_r, .ref a_fresh, .ref a_st, .ref a_undone, .ref a_kept, .int m_undos, .int m_images, .ref a_from, .ref a_begin, .ref a_motor, .ref a_change, .ref a_startFrame, .ref a_changeFrame, .ref a_lostAt, .ref a_blackAt, .ref a_slips, .ref a_leftArc, .ref a_died, .ref a_arcs, .int m_bestSum, .int m_nearest, .int m_nearestTown, .ref a_there, .ref a_backAt, .ref a_sorted, .ref a_parts, .int m_seed1, .int m_darkNow])), (a_tape, .inl (g.2.2.1, 900, .inl d_tape)), (a_letters, .inl (g.2.2.1, 8, .inl d_letters2_164))] _ _ _ => hg _ (w_fr_115_3 hR_182 i_191 (iv_w iv_7 (by decide) (by decide))) (k16_u (by have := iv_188; omega))) (fun fa_189 hR_190 hk_192 => ?_)
                have ek_193 : z_5 = fa_189 (11 : Int32).toNatClampNeg := ek_185.trans (hk_192 _ (by decide)).symm
                refine k_aload_n X dX11_manLine_181 4 rfl ?_
                refine k_get (ci := 11) X inlX11 rfl 16 (by decide) dX11_manLine_182 mw171 1 rfl rfl ?_
                refine k_iload_n X dX11_manLine_185 3 rfl ?_
                refine k_iconst (v := 2) X dX11_manLine_186 (by decide) ?_
                refine k_iadd X dX11_manLine_187 ?_
                refine k_nm (fun z_194 ez_194 => ?_)
                have i_195 : z_194.toInt = z_11.toInt + 2 := in_add ez_194 iv_13 (show IV 2 2 2 from (by decide)) (by decide) (by decide)
                have iv_196 : IV z_194 116 125 := by have := iv_13; have := (show IV 2 2 2 from (by decide)); rw [IV, i_195]; omega
                refine k_iload X dX11_manLine_188 0 rfl ?_
                refine k_iast [(a_fresh, .inl (g.2.2.1, 311, .inl (upd fa_189 (z_194 : Int32).toNatClampNeg r_169))), (h0, .inr (11, [.int m_thrown, .ref a_tape, .int m_taped, .int m_size, .int m_at2_160, .int m_end2_161, .int m_token2_167, .int m_whole2_168, .int m_nameSize2_165, .int m_fault2_163, .int m_place2_166, .int m_trouble, .ref a_letters, .int m_failed2_162, .int m_hasHouse, .ref a_r, .ref a_fresh, .ref a_st, .ref a_undone, .ref a_kept, .int m_undos, .int m_images, .ref a_from, .ref a_begin, .ref a_motor, .ref a_change, .ref a_startFrame, .ref a_changeFrame, .ref a_lostAt, .ref a_blackAt, .ref a_slips, .ref a_leftArc, .ref a_died, .ref a_arcs, .int m_bestSum, .int m_nearest, .int m_nearestTown, .ref a_there, .ref a_backAt, .ref a_sorted, .ref a_parts, .int m_seed1, .int m_darkNow])), (a_tape, .inl (g.2.2.1, 900, .inl d_tape)), (a_letters, .inl (g.2.2.1, 8, .inl d_letters2_164))] X dX11_manLine_190 0 rfl (iv_in iv_196 (by decide) (by decide)) rfl ?_
                have i_199 : z_194.toInt = 116 + 3 * z_5.toInt := by omega
                refine (fun hg : ∀ fa_197 : Nat → Int32, RInv fa_197 → K16 fa_189 fa_197 → Wk p l e _ s m args below meth c _ A g _ _ _ [(a_fresh, .inl (g.2.2.1, 311, .inl fa_197)), (h0, .inr (11, [.int m_thrown, .ref a_tape, .int m_taped, .int m_size, .int m_at2_160, .int m_end2_161, .int m_token2_167, .int m_whole2_168, .int m_nameSize2_165, .int m_fault2_163, .int m_place2_166, .int m_trouble, .ref a_letters, .int m_failed2_162, .int m_hasHouse, .ref a_r, .ref a_fresh, .ref a_st, .ref a_undone, .ref a_kept, .int m_undos, .int m_images, .ref a_from, .ref a_begin, .ref a_motor, .ref a_change, .ref a_startFrame, .ref a_changeFrame, .ref a_lostAt, .ref a_blackAt, .ref a_slips, .ref a_leftArc, .ref a_died, .ref a_arcs, .int m_bestSum, .int m_nearest, .int m_nearestTown, .ref a_there, .ref a_backAt, .ref a_sorted, .ref a_parts, .int m_seed1, .int m_darkNow])), (a_tape, .inl (g.2.2.1, 900, .inl d_tape)), (a_letters, .inl (g.2.2.1, 8, .inl d_letters2_164))] _ _ _ => hg _ (w_rb_116_3 hR_190 i_199 (iv_w iv_7 (by decide) (by decide)) (iv_w iv_178 (by decide) (by decide))) (k16_u (by have := iv_196; omega))) (fun fa_197 hR_198 hk_200 => ?_)
                have ek_201 : z_5 = fa_197 (11 : Int32).toNatClampNeg := ek_193.trans (hk_200 _ (by decide)).symm
                refine k_aload_n X dX11_manLine_191 4 rfl ?_
                refine k_get (ci := 11) X inlX11 rfl 16 (by decide) dX11_manLine_192 mw171 1 rfl rfl ?_
                refine k_bipush (v := 11) X dX11_manLine_195 (by decide) ?_
                refine k_dup2 X dX11_manLine_197 rfl rfl ?_
                refine k_iald X dX11_manLine_198 0 rfl (by unfold vp_in; decide) ?_
                refine k_to z_5 ek_201.symm ?_
                refine k_iconst (v := 1) X dX11_manLine_199 (by decide) ?_
                refine k_iadd X dX11_manLine_200 ?_
                refine k_nm (fun z_202 ez_202 => ?_)
                have i_203 : z_202.toInt = z_5.toInt + 1 := in_add ez_202 iv_7 (show IV 1 1 1 from (by decide)) (by decide) (by decide)
                have iv_204 : IV z_202 1 4 := by have := iv_7; have := (show IV 1 1 1 from (by decide)); rw [IV, i_203]; omega
                refine k_iast [(a_fresh, .inl (g.2.2.1, 311, .inl (upd fa_197 (11 : Int32).toNatClampNeg z_202))), (h0, .inr (11, [.int m_thrown, .ref a_tape, .int m_taped, .int m_size, .int m_at2_160, .int m_end2_161, .int m_token2_167, .int m_whole2_168, .int m_nameSize2_165, .int m_fault2_163, .int m_place2_166, .int m_trouble, .ref a_letters, .int m_failed2_162, .int m_hasHouse, .ref a_r, .ref a_fresh, .ref a_st, .ref a_undone, .ref a_kept, .int m_undos, .int m_images, .ref a_from, .ref a_begin, .ref a_motor, .ref a_change, .ref a_startFrame, .ref a_changeFrame, .ref a_lostAt, .ref a_blackAt, .ref a_slips, .ref a_leftArc, .ref a_died, .ref a_arcs, .int m_bestSum, .int m_nearest, .int m_nearestTown, .ref a_there, .ref a_backAt, .ref a_sorted, .ref a_parts, .int m_seed1, .int m_darkNow])), (a_tape, .inl (g.2.2.1, 900, .inl d_tape)), (a_letters, .inl (g.2.2.1, 8, .inl d_letters2_164))] X dX11_manLine_201 0 rfl (by unfold vp_in; decide) rfl ?_
                refine (fun hg : ∀ fa_205 : Nat → Int32, RInv fa_205 → Wk p l e _ s m args below meth c _ A g _ _ _ [(a_fresh, .inl (g.2.2.1, 311, .inl fa_205)), (h0, .inr (11, [.int m_thrown, .ref a_tape, .int m_taped, .int m_size, .int m_at2_160, .int m_end2_161, .int m_token2_167, .int m_whole2_168, .int m_nameSize2_165, .int m_fault2_163, .int m_place2_166, .int m_trouble, .ref a_letters, .int m_failed2_162, .int m_hasHouse, .ref a_r, .ref a_fresh, .ref a_st, .ref a_undone, .ref a_kept, .int m_undos, .int m_images, .ref a_from, .ref a_begin, .ref a_motor, .ref a_change, .ref a_startFrame, .ref a_changeFrame, .ref a_lostAt, .ref a_blackAt, .ref a_slips, .ref a_leftArc, .ref a_died, .ref a_arcs, .int m_bestSum, .int m_nearest, .int m_nearestTown, .ref a_there, .ref a_backAt, .ref a_sorted, .ref a_parts, .int m_seed1, .int m_darkNow])), (a_tape, .inl (g.2.2.1, 900, .inl d_tape)), (a_letters, .inl (g.2.2.1, 8, .inl d_letters2_164))] _ _ _ => hg _ (w_rb_11 hR_198 (iv_w iv_204 (by decide) (by decide)))) (fun fa_205 hR_206 => ?_)
                exact k_vret X hr dX11_manLine_202 (Nat.le_of_ble_eq_true rfl) (Nat.le_of_ble_eq_true rfl) [1, 2, 3, 0] (by decide) rfl rfl ⟨m_at2_160, m_end2_161, m_failed2_162, m_fault2_163, fa_205, d_letters2_164, m_nameSize2_165, m_place2_166, m_token2_167, m_whole2_168, (iv_w iv_170 (by decide) (by decide)), (iv_w iv_180 (by decide) (by decide)), (iv_w iv_172 (by decide) (by decide)), hR_206, (by omega), hk_175, rfl⟩
              · skip
                have iv_208 : IV m_failed2_162 1 1 := iv_neL h_179 iv_171 (show IV 0 0 0 from (by decide)) (by decide)
                exact k_vret X hr dX11_manLine_164 (Nat.le_of_ble_eq_true rfl) (Nat.le_of_ble_eq_true rfl) [1, 2, 3, 0] (by decide) rfl rfl ⟨m_at2_160, m_end2_161, m_failed2_162, m_fault2_163, d_fresh2_21, d_letters2_164, m_nameSize2_165, m_place2_166, m_token2_167, m_whole2_168, (iv_w iv_170 (by decide) (by decide)), (iv_w iv_208 (by decide) (by decide)), (iv_w iv_172 (by decide) (by decide)), hp_31, (by omega), hk_175, rfl⟩
        · skip
          have hc_209 := hk_51.resolve_left h_52
          have iv_210 : IV m_token2_25 2 2 := iv_meet (iv_any m_token2_25) hc_209.1 (by decide) (by decide)
          have hc_211 := hk_34 (iv_eq iv_210 (show IV 2 2 2 from (by decide)))
          have iv_212 : IV m_nameSize2_23 0 8 := iv_meet iv_30 hc_211 (by decide) (by decide)
          have iv_213 : IV m_failed2_19 0 0 := iv_meet iv_29 hc_209.2 (by decide) (by decide)
          have iv_214 : IV r_49 1 1 := iv_neL h_52 iv_50 (show IV 0 0 0 from (by decide)) (by decide)
          refine k_iconst (v := 2) X dX11_manLine_73 (by decide) ?_
          refine k_goto 92 X dX11_manLine_74 (by decide) ?_
          refine k_istore_n [(2, .int 2), (1, .int z_11), (0, .ref h0)] X dX11_manLine_92 (by decide) rfl ?_
          refine k_iload_n X dX11_manLine_93 0 rfl ?_
          refine k_if_ge 106 X dX11_manLine_94 (by decide) (fun _ => ?_) (fun h_215 => absurd (by decide) h_215)
          refine k_aload_n X dX11_manLine_106 2 rfl ?_
          refine k_get (ci := 11) X inlX11 rfl 13 (by decide) dX11_manLine_107 mw469 2 rfl rfl ?_
          refine k_if_eq 114 X dX11_manLine_110 (by decide) (fun h_216 => ?_) (fun h_216 => absurd (iv_eq iv_213 (show IV 0 0 0 from (by decide))) h_216)
          refine k_aload_n X dX11_manLine_114 2 rfl ?_
          refine k_callVV (n := 0) (As := []) (st := []) X [(h0, .inr (11, [.int m_thrown, .ref a_tape, .int m_taped, .int m_size, .int m_at2_17, .int m_end2_18, .int m_token2_25, .int m_whole2_26, .int m_nameSize2_23, .int m_fault2_20, .int m_place2_24, .int m_trouble, .ref a_letters, .int m_failed2_19, .int m_hasHouse, .ref a_r, .ref a_fresh, .ref a_st, .ref a_undone, .ref a_kept, .int m_undos, .int m_images, .ref a_from, .ref a_begin, .ref a_motor, .ref a_change, .ref a_startFrame, .ref a_changeFrame, .ref a_lostAt, .ref a_blackAt, .ref a_slips, .ref a_leftArc, .ref a_died, .ref a_arcs, .int m_bestSum, .int m_nearest, .int m_nearestTown, .ref a_there, .ref a_backAt, .ref a_sorted, .ref a_parts, .int m_seed1, .int m_darkNow])), (a_tape, .inl (g.2.2.1, 900, .inl d_tape)), (a_letters, .inl (g.2.2.1, 8, .inl d_letters2_22))] [(a_fresh, .inl (g.2.2.1, 311, .inl d_fresh2_21))] [2, 0, 3] [1] (m_next l g h0 m_thrown a_tape m_taped m_size m_at2_17 m_end2_18 m_token2_25 m_whole2_26 m_nameSize2_23 m_fault2_20 m_place2_24 m_trouble a_letters m_failed2_19 m_hasHouse a_r a_fresh a_st a_undone a_kept m_undos m_images a_from a_begin a_motor a_change a_startFrame a_changeFrame a_lostAt a_blackAt a_slips a_leftArc a_died a_arcs m_bestSum m_nearest m_nearestTown a_there a_backAt a_sorted a_parts m_seed1 m_darkNow d_tape d_letters2_22 (iv_w hv_m_size (by decide) (by decide)) (iv_w iv_28 (by decide) (by decide)) (iv_w iv_212 (by decide) (by decide))) dX11_manLine_115 mw489 mw490 mw491 mw5 mw492 rfl 11 rfl rfl 0 _ rfl (by unfold yOk; decide) rfl (Nat.le_of_ble_eq_true rfl) (Nat.le_of_ble_eq_true rfl) (Nat.le_of_ble_eq_true rfl) (Nat.le_of_ble_eq_true rfl) (Nat.le_of_ble_eq_true rfl) rfl rfl (by decide) rfl (by decide) (by decide) ?_
          rintro w ⟨m_at2_217, m_end2_218, d_letters2_219, m_nameSize2_220, m_token2_221, m_whole2_222, iv_224, iv_225, hq_226, hq_227, hk_228, rfl⟩
          refine k_ws [(a_fresh, .inl (g.2.2.1, 311, .inl d_fresh2_21)), (h0, .inr (11, [.int m_thrown, .ref a_tape, .int m_taped, .int m_size, .int m_at2_217, .int m_end2_218, .int m_token2_221, .int m_whole2_222, .int m_nameSize2_220, .int m_fault2_20, .int m_place2_24, .int m_trouble, .ref a_letters, .int m_failed2_19, .int m_hasHouse, .ref a_r, .ref a_fresh, .ref a_st, .ref a_undone, .ref a_kept, .int m_undos, .int m_images, .ref a_from, .ref a_begin, .ref a_motor, .ref a_change, .ref a_startFrame, .ref a_changeFrame, .ref a_lostAt, .ref a_blackAt, .ref a_slips, .ref a_leftArc, .ref a_died, .ref a_arcs, .int m_bestSum, .int m_nearest, .int m_nearestTown, .ref a_there, .ref a_backAt, .ref a_sorted, .ref a_parts, .int m_seed1, .int m_darkNow])), (a_tape, .inl (g.2.2.1, 900, .inl d_tape)), (a_letters, .inl (g.2.2.1, 8, .inl d_letters2_219))] rfl ?_
          refine k_iconst (v := 0) X dX11_manLine_118 (by decide) ?_
          refine k_istore_n [(3, .int 0), (2, .int 2), (1, .int z_11), (0, .ref h0)] X dX11_manLine_119 (by decide) rfl ?_
          refine k_iload_n X dX11_manLine_120 1 rfl ?_
          refine k_iconst (v := 3) X dX11_manLine_121 (by decide) ?_
          refine k_ic_ne 145 X dX11_manLine_122 (by decide) (fun _ => ?_) (fun h_229 => absurd h_229 (by decide))
          refine k_aload_n X dX11_manLine_145 3 rfl ?_
          refine k_ldcwS (tx := "slip") X dX11_manLine_146 (by decide +kernel) (fun sr_230 hsr_230 => ?_)
          refine k_iconst (v := 0) X dX11_manLine_149 (by decide) ?_
          refine k_bipush (v := 40) X dX11_manLine_150 (by decide) ?_
          refine k_callVI (n := 3) (As := [.ref sr_230, .int 0, .int 40]) (st := []) X [(h0, .inr (11, [.int m_thrown, .ref a_tape, .int m_taped, .int m_size, .int m_at2_217, .int m_end2_218, .int m_token2_221, .int m_whole2_222, .int m_nameSize2_220, .int m_fault2_20, .int m_place2_24, .int m_trouble, .ref a_letters, .int m_failed2_19, .int m_hasHouse, .ref a_r, .ref a_fresh, .ref a_st, .ref a_undone, .ref a_kept, .int m_undos, .int m_images, .ref a_from, .ref a_begin, .ref a_motor, .ref a_change, .ref a_startFrame, .ref a_changeFrame, .ref a_lostAt, .ref a_blackAt, .ref a_slips, .ref a_leftArc, .ref a_died, .ref a_arcs, .int m_bestSum, .int m_nearest, .int m_nearestTown, .ref a_there, .ref a_backAt, .ref a_sorted, .ref a_parts, .int m_seed1, .int m_darkNow])), (a_tape, .inl (g.2.2.1, 900, .inl d_tape)), (a_letters, .inl (g.2.2.1, 8, .inl d_letters2_219))] [(a_fresh, .inl (g.2.2.1, 311, .inl d_fresh2_21))] [1, 2, 3] [0] (m_after l g h0 sr_230 0 40 m_thrown a_tape m_taped m_size m_at2_217 m_end2_218 m_token2_221 m_whole2_222 m_nameSize2_220 m_fault2_20 m_place2_24 m_trouble a_letters m_failed2_19 m_hasHouse a_r a_fresh a_st a_undone a_kept m_undos m_images a_from a_begin a_motor a_change a_startFrame a_changeFrame a_lostAt a_blackAt a_slips a_leftArc a_died a_arcs m_bestSum m_nearest m_nearestTown a_there a_backAt a_sorted a_parts m_seed1 m_darkNow d_tape d_letters2_219 ("slip") (iv_w hv_m_size (by decide) (by decide)) (iv_w iv_224 (by decide) (by decide)) (iv_w iv_225 (by decide) (by decide)) (iv_w iv_213 (by decide) (by decide)) hsr_230 hk_228) dX11_manLine_152 mw523 mw524 mw525 mw5 mw526 rfl 11 rfl rfl 0 _ rfl (by unfold yOk; decide) rfl (Nat.le_of_ble_eq_true rfl) (Nat.le_of_ble_eq_true rfl) (Nat.le_of_ble_eq_true rfl) (Nat.le_of_ble_eq_true rfl) (Nat.le_of_ble_eq_true rfl) rfl rfl (by decide) rfl (by decide) (by decide) ?_
          rintro r_240 w ⟨m_at2_231, m_end2_232, m_failed2_233, m_fault2_234, d_letters2_235, m_nameSize2_236, m_place2_237, m_token2_238, m_whole2_239, iv_241, iv_242, iv_243, hq_244, hq_245, hk_246, rfl⟩
          refine k_ws [(a_fresh, .inl (g.2.2.1, 311, .inl d_fresh2_21)), (h0, .inr (11, [.int m_thrown, .ref a_tape, .int m_taped, .int m_size, .int m_at2_231, .int m_end2_232, .int m_token2_238, .int m_whole2_239, .int m_nameSize2_236, .int m_fault2_234, .int m_place2_237, .int m_trouble, .ref a_letters, .int m_failed2_233, .int m_hasHouse, .ref a_r, .ref a_fresh, .ref a_st, .ref a_undone, .ref a_kept, .int m_undos, .int m_images, .ref a_from, .ref a_begin, .ref a_motor, .ref a_change, .ref a_startFrame, .ref a_changeFrame, .ref a_lostAt, .ref a_blackAt, .ref a_slips, .ref a_leftArc, .ref a_died, .ref a_arcs, .int m_bestSum, .int m_nearest, .int m_nearestTown, .ref a_there, .ref a_backAt, .ref a_sorted, .ref a_parts, .int m_seed1, .int m_darkNow])), (a_tape, .inl (g.2.2.1, 900, .inl d_tape)), (a_letters, .inl (g.2.2.1, 8, .inl d_letters2_235))] rfl ?_
          have e_247 : (0 : Int32).toInt = 0 := by decide
          have e_248 : (40 : Int32).toInt = 40 := by decide
          have iv_249 : IV r_240 0 40 := by have := (show IV 0 0 0 from (by decide)); have := (show IV 40 40 40 from (by decide)); rw [IV]; omega
          refine k_istore [(4, .int r_240), (3, .int 0), (2, .int 2), (1, .int z_11), (0, .ref h0)] X dX11_manLine_155 (by decide) rfl ?_
          refine k_aload_n X dX11_manLine_157 4 rfl ?_
          refine k_get (ci := 11) X inlX11 rfl 13 (by decide) dX11_manLine_158 mw469 1 rfl rfl ?_
          refine k_if_eq 165 X dX11_manLine_161 (by decide) (fun h_250 => ?_) (fun h_250 => ?_)
          · skip
            have iv_251 : IV m_failed2_233 0 0 := iv_meet iv_242 (iv_e h_250 (show IV 0 0 0 from (by decide))) (by decide) (by decide)
            refine k_aload_n X dX11_manLine_165 4 rfl ?_
            refine k_get (ci := 11) X inlX11 rfl 16 (by decide) dX11_manLine_166 mw171 1 rfl rfl ?_
            refine k_iload_n X dX11_manLine_169 3 rfl ?_
            refine k_iload_n X dX11_manLine_170 2 rfl ?_
            refine k_iast [(a_fresh, .inl (g.2.2.1, 311, .inl (upd d_fresh2_21 (z_11 : Int32).toNatClampNeg 2))), (h0, .inr (11, [.int m_thrown, .ref a_tape, .int m_taped, .int m_size, .int m_at2_231, .int m_end2_232, .int m_token2_238, .int m_whole2_239, .int m_nameSize2_236, .int m_fault2_234, .int m_place2_237, .int m_trouble, .ref a_letters, .int m_failed2_233, .int m_hasHouse, .ref a_r, .ref a_fresh, .ref a_st, .ref a_undone, .ref a_kept, .int m_undos, .int m_images, .ref a_from, .ref a_begin, .ref a_motor, .ref a_change, .ref a_startFrame, .ref a_changeFrame, .ref a_lostAt, .ref a_blackAt, .ref a_slips, .ref a_leftArc, .ref a_died, .ref a_arcs, .int m_bestSum, .int m_nearest, .int m_nearestTown, .ref a_there, .ref a_backAt, .ref a_sorted, .ref a_parts, .int m_seed1, .int m_darkNow])), (a_tape, .inl (g.2.2.1, 900, .inl d_tape)), (a_letters, .inl (g.2.2.1, 8, .inl d_letters2_235))] X dX11_manLine_171 0 rfl (iv_in iv_13 (by decide) (by decide)) rfl ?_
            have i_254 : z_11.toInt = 114 + 3 * z_5.toInt := by omega
            refine (fun hg : ∀ fa_252 : Nat → Int32, RInv fa_252 → K16 d_fresh2_21 fa_252 → Wk p l e _ s m args below meth c _ A g _ _ _ [(a_fresh, .inl (g.2.2.1, 311, .inl fa_252)), (h0, .inr (11, [.int m_thrown, .ref a_tape, .int m_taped, .int m_size, .int m_at2_231, .int m_end2_232, .int m_token2_238, .int m_whole2_239, .int m_nameSize2_236, .int m_fault2_234, .int m_place2_237, .int m_trouble, .ref a_letters, .int m_failed2_233, .int m_hasHouse, .ref a_r, .ref a_fresh, .ref a_st, .ref a_undone, .ref a_kept, .int m_undos, .int m_images, .ref a_from, .ref a_begin, .ref a_motor, .ref a_change, .ref a_startFrame, .ref a_changeFrame, .ref a_lostAt, .ref a_blackAt, .ref a_slips, .ref a_leftArc, .ref a_died, .ref a_arcs, .int m_bestSum, .int m_nearest, .int m_nearestTown, .ref a_there, .ref a_backAt, .ref a_sorted, .ref a_parts, .int m_seed1, .int m_darkNow])), (a_tape, .inl (g.2.2.1, 900, .inl d_tape)), (a_letters, .inl (g.2.2.1, 8, .inl d_letters2_235))] _ _ _ => hg _ (w_fr_114_3 hp_31 i_254 (iv_w iv_7 (by decide) (by decide))) (k16_u (by have := iv_13; omega))) (fun fa_252 hR_253 hk_255 => ?_)
            have ek_256 : z_5 = fa_252 (11 : Int32).toNatClampNeg := ek_35.trans (hk_255 _ (by decide)).symm
            refine k_aload_n X dX11_manLine_172 4 rfl ?_
            refine k_get (ci := 11) X inlX11 rfl 16 (by decide) dX11_manLine_173 mw171 1 rfl rfl ?_
            refine k_iload_n X dX11_manLine_176 3 rfl ?_
            refine k_iconst (v := 1) X dX11_manLine_177 (by decide) ?_
            refine k_iadd X dX11_manLine_178 ?_
            refine k_nm (fun z_257 ez_257 => ?_)
            have i_258 : z_257.toInt = z_11.toInt + 1 := in_add ez_257 iv_13 (show IV 1 1 1 from (by decide)) (by decide) (by decide)
            have iv_259 : IV z_257 115 124 := by have := iv_13; have := (show IV 1 1 1 from (by decide)); rw [IV, i_258]; omega
            refine k_iload_n X dX11_manLine_179 1 rfl ?_
            refine k_iast [(a_fresh, .inl (g.2.2.1, 311, .inl (upd fa_252 (z_257 : Int32).toNatClampNeg 0))), (h0, .inr (11, [.int m_thrown, .ref a_tape, .int m_taped, .int m_size, .int m_at2_231, .int m_end2_232, .int m_token2_238, .int m_whole2_239, .int m_nameSize2_236, .int m_fault2_234, .int m_place2_237, .int m_trouble, .ref a_letters, .int m_failed2_233, .int m_hasHouse, .ref a_r, .ref a_fresh, .ref a_st, .ref a_undone, .ref a_kept, .int m_undos, .int m_images, .ref a_from, .ref a_begin, .ref a_motor, .ref a_change, .ref a_startFrame, .ref a_changeFrame, .ref a_lostAt, .ref a_blackAt, .ref a_slips, .ref a_leftArc, .ref a_died, .ref a_arcs, .int m_bestSum, .int m_nearest, .int m_nearestTown, .ref a_there, .ref a_backAt, .ref a_sorted, .ref a_parts, .int m_seed1, .int m_darkNow])), (a_tape, .inl (g.2.2.1, 900, .inl d_tape)), (a_letters, .inl (g.2.2.1, 8, .inl d_letters2_235))] X dX11_manLine_180 0 rfl (iv_in iv_259 (by decide) (by decide)) rfl ?_
            refine (fun hg : ∀ fa_260 : Nat → Int32, RInv fa_260 → K16 fa_252 fa_260 → Wk p l e _ s m args below meth c _ A g _ _ _ [(a_fresh, .inl (g.2.2.1, 311, .inl fa_260)), (h0, .inr (11, [.int m_thrown, .ref a_tape, .int m_taped, .int m_size, .int m_at2_231, .int m_end2_232, .int m_token2_238, .int m_whole2_239, .int m_nameSize2_236, .int m_fault2_234, .int m_place2_237, .int m_trouble, .ref a_letters, .int m_failed2_233, .int m_hasHouse, .ref a_r, .ref a_fresh, .ref a_st, .ref a_undone, .ref a_kept, .int m_undos, .int m_images, .ref a_from, .ref a_begin, .ref a_motor, .ref a_change, .ref a_startFrame, .ref a_changeFrame, .ref a_lostAt, .ref a_blackAt, .ref a_slips, .ref a_leftArc, .ref a_died, .ref a_arcs, .int m_bestSum, .int m_nearest, .int m_nearestTown, .ref a_there, .ref a_backAt, .ref a_sorted, .ref a_parts, .int m_seed1, .int m_darkNow])), (a_tape, .inl (g.2.2.1, 900, .inl d_tape)), (a_letters, .inl (g.2.2.1, 8, .inl d_letters2_235))] _ _ _ => hg _ (w_zero hR_253) (k16_u (by have := iv_259; omega))) (fun fa_260 hR_261 hk_262 => ?_)
            have ek_263 : z_5 = fa_260 (11 : Int32).toNatClampNeg := ek_256.trans (hk_262 _ (by decide)).symm
            refine k_aload_n X dX11_manLine_181 4 rfl ?_
            refine k_get (ci := 11) X inlX11 rfl 16 (by decide) dX11_manLine_182 mw171 1 rfl rfl ?_
            refine k_iload_n X dX11_manLine_185 3 rfl ?_
            refine k_iconst (v := 2) X dX11_manLine_186 (by decide) ?_
            refine k_iadd X dX11_manLine_187 ?_
            refine k_nm (fun z_264 ez_264 => ?_)
            have i_265 : z_264.toInt = z_11.toInt + 2 := in_add ez_264 iv_13 (show IV 2 2 2 from (by decide)) (by decide) (by decide)
            have iv_266 : IV z_264 116 125 := by have := iv_13; have := (show IV 2 2 2 from (by decide)); rw [IV, i_265]; omega
            refine k_iload X dX11_manLine_188 0 rfl ?_
            refine k_iast [(a_fresh, .inl (g.2.2.1, 311, .inl (upd fa_260 (z_264 : Int32).toNatClampNeg r_240))), (h0, .inr (11, [.int m_thrown, .ref a_tape, .int m_taped, .int m_size, .int m_at2_231, .int m_end2_232, .int m_token2_238, .int m_whole2_239, .int m_nameSize2_236, .int m_fault2_234, .int m_place2_237, .int m_trouble, .ref a_letters, .int m_failed2_233, .int m_hasHouse, .ref a_r, .ref a_fresh, .ref a_st, .ref a_undone, .ref a_kept, .int m_undos, .int m_images, .ref a_from, .ref a_begin, .ref a_motor, .ref a_change, .ref a_startFrame, .ref a_changeFrame, .ref a_lostAt, .ref a_blackAt, .ref a_slips, .ref a_leftArc, .ref a_died, .ref a_arcs, .int m_bestSum, .int m_nearest, .int m_nearestTown, .ref a_there, .ref a_backAt, .ref a_sorted, .ref a_parts, .int m_seed1, .int m_darkNow])), (a_tape, .inl (g.2.2.1, 900, .inl d_tape)), (a_letters, .inl (g.2.2.1, 8, .inl d_letters2_235))] X dX11_manLine_190 0 rfl (iv_in iv_266 (by decide) (by decide)) rfl ?_
            have i_269 : z_264.toInt = 116 + 3 * z_5.toInt := by omega
            refine (fun hg : ∀ fa_267 : Nat → Int32, RInv fa_267 → K16 fa_260 fa_267 → Wk p l e _ s m args below meth c _ A g _ _ _ [(a_fresh, .inl (g.2.2.1, 311, .inl fa_267)), (h0, .inr (11, [.int m_thrown, .ref a_tape, .int m_taped, .int m_size, .int m_at2_231, .int m_end2_232, .int m_token2_238, .int m_whole2_239, .int m_nameSize2_236, .int m_fault2_234, .int m_place2_237, .int m_trouble, .ref a_letters, .int m_failed2_233, .int m_hasHouse, .ref a_r, .ref a_fresh, .ref a_st, .ref a_undone, .ref a_kept, .int m_undos, .int m_images, .ref a_from, .ref a_begin, .ref a_motor, .ref a_change, .ref a_startFrame, .ref a_changeFrame, .ref a_lostAt, .ref a_blackAt, .ref a_slips, .ref a_leftArc, .ref a_died, .ref a_arcs, .int m_bestSum, .int m_nearest, .int m_nearestTown, .ref a_there, .ref a_backAt, .ref a_sorted, .ref a_parts, .int m_seed1, .int m_darkNow])), (a_tape, .inl (g.2.2.1, 900, .inl d_tape)), (a_letters, .inl (g.2.2.1, 8, .inl d_letters2_235))] _ _ _ => hg _ (w_rb_116_3 hR_261 i_269 (iv_w iv_7 (by decide) (by decide)) (iv_w iv_249 (by decide) (by decide))) (k16_u (by have := iv_266; omega))) (fun fa_267 hR_268 hk_270 => ?_)
            have ek_271 : z_5 = fa_267 (11 : Int32).toNatClampNeg := ek_263.trans (hk_270 _ (by decide)).symm
            refine k_aload_n X dX11_manLine_191 4 rfl ?_
            refine k_get (ci := 11) X inlX11 rfl 16 (by decide) dX11_manLine_192 mw171 1 rfl rfl ?_
            refine k_bipush (v := 11) X dX11_manLine_195 (by decide) ?_
            refine k_dup2 X dX11_manLine_197 rfl rfl ?_
            refine k_iald X dX11_manLine_198 0 rfl (by unfold vp_in; decide) ?_
            refine k_to z_5 ek_271.symm ?_
            refine k_iconst (v := 1) X dX11_manLine_199 (by decide) ?_
            refine k_iadd X dX11_manLine_200 ?_
            refine k_nm (fun z_272 ez_272 => ?_)
            have i_273 : z_272.toInt = z_5.toInt + 1 := in_add ez_272 iv_7 (show IV 1 1 1 from (by decide)) (by decide) (by decide)
            have iv_274 : IV z_272 1 4 := by have := iv_7; have := (show IV 1 1 1 from (by decide)); rw [IV, i_273]; omega
            refine k_iast [(a_fresh, .inl (g.2.2.1, 311, .inl (upd fa_267 (11 : Int32).toNatClampNeg z_272))), (h0, .inr (11, [.int m_thrown, .ref a_tape, .int m_taped, .int m_size, .int m_at2_231, .int m_end2_232, .int m_token2_238, .int m_whole2_239, .int m_nameSize2_236, .int m_fault2_234, .int m_place2_237, .int m_trouble, .ref a_letters, .int m_failed2_233, .int m_hasHouse, .ref a_r, .ref a_fresh, .ref a_st, .ref a_undone, .ref a_kept, .int m_undos, .int m_images, .ref a_from, .ref a_begin, .ref a_motor, .ref a_change, .ref a_startFrame, .ref a_changeFrame, .ref a_lostAt, .ref a_blackAt, .ref a_slips, .ref a_leftArc, .ref a_died, .ref a_arcs, .int m_bestSum, .int m_nearest, .int m_nearestTown, .ref a_there, .ref a_backAt, .ref a_sorted, .ref a_parts, .int m_seed1, .int m_darkNow])), (a_tape, .inl (g.2.2.1, 900, .inl d_tape)), (a_letters, .inl (g.2.2.1, 8, .inl d_letters2_235))] X dX11_manLine_201 0 rfl (by unfold vp_in; decide) rfl ?_
            refine (fun hg : ∀ fa_275 : Nat → Int32, RInv fa_275 → Wk p l e _ s m args below meth c _ A g _ _ _ [(a_fresh, .inl (g.2.2.1, 311, .inl fa_275)), (h0, .inr (11, [.int m_thrown, .ref a_tape, .int m_taped, .int m_size, .int m_at2_231, .int m_end2_232, .int m_token2_238, .int m_whole2_239, .int m_nameSize2_236, .int m_fault2_234, .int m_place2_237, .int m_trouble, .ref a_letters, .int m_failed2_233, .int m_hasHouse, .ref a_r, .ref a_fresh, .ref a_st, .ref a_undone, .ref a_kept, .int m_undos, .int m_images, .ref a_from, .ref a_begin, .ref a_motor, .ref a_change, .ref a_startFrame, .ref a_changeFrame, .ref a_lostAt, .ref a_blackAt, .ref a_slips, .ref a_leftArc, .ref a_died, .ref a_arcs, .int m_bestSum, .int m_nearest, .int m_nearestTown, .ref a_there, .ref a_backAt, .ref a_sorted, .ref a_parts, .int m_seed1, .int m_darkNow])), (a_tape, .inl (g.2.2.1, 900, .inl d_tape)), (a_letters, .inl (g.2.2.1, 8, .inl d_letters2_235))] _ _ _ => hg _ (w_rb_11 hR_268 (iv_w iv_274 (by decide) (by decide)))) (fun fa_275 hR_276 => ?_)
            exact k_vret X hr dX11_manLine_202 (Nat.le_of_ble_eq_true rfl) (Nat.le_of_ble_eq_true rfl) [1, 2, 3, 0] (by decide) rfl rfl ⟨m_at2_231, m_end2_232, m_failed2_233, m_fault2_234, fa_275, d_letters2_235, m_nameSize2_236, m_place2_237, m_token2_238, m_whole2_239, (iv_w iv_241 (by decide) (by decide)), (iv_w iv_251 (by decide) (by decide)), (iv_w iv_243 (by decide) (by decide)), hR_276, (by omega), hk_246, rfl⟩
          · skip
            have iv_278 : IV m_failed2_233 1 1 := iv_neL h_250 iv_242 (show IV 0 0 0 from (by decide)) (by decide)
            exact k_vret X hr dX11_manLine_164 (Nat.le_of_ble_eq_true rfl) (Nat.le_of_ble_eq_true rfl) [1, 2, 3, 0] (by decide) rfl rfl ⟨m_at2_231, m_end2_232, m_failed2_233, m_fault2_234, d_fresh2_21, d_letters2_235, m_nameSize2_236, m_place2_237, m_token2_238, m_whole2_239, (iv_w iv_241 (by decide) (by decide)), (iv_w iv_278 (by decide) (by decide)), (iv_w iv_243 (by decide) (by decide)), hp_31, (by omega), hk_246, rfl⟩
      · skip
        have hc_279 := hk_45.resolve_left h_46
        have iv_280 : IV m_token2_25 2 2 := iv_meet (iv_any m_token2_25) hc_279.1 (by decide) (by decide)
        have hc_281 := hk_34 (iv_eq iv_280 (show IV 2 2 2 from (by decide)))
        have iv_282 : IV m_nameSize2_23 0 8 := iv_meet iv_30 hc_281 (by decide) (by decide)
        have iv_283 : IV m_failed2_19 0 0 := iv_meet iv_29 hc_279.2 (by decide) (by decide)
        have iv_284 : IV r_43 1 1 := iv_neL h_46 iv_44 (show IV 0 0 0 from (by decide)) (by decide)
        refine k_iconst (v := 1) X dX11_manLine_59 (by decide) ?_
        refine k_goto 92 X dX11_manLine_60 (by decide) ?_
        refine k_istore_n [(2, .int 1), (1, .int z_11), (0, .ref h0)] X dX11_manLine_92 (by decide) rfl ?_
        refine k_iload_n X dX11_manLine_93 0 rfl ?_
        refine k_if_ge 106 X dX11_manLine_94 (by decide) (fun _ => ?_) (fun h_285 => absurd (by decide) h_285)
        refine k_aload_n X dX11_manLine_106 2 rfl ?_
        refine k_get (ci := 11) X inlX11 rfl 13 (by decide) dX11_manLine_107 mw469 2 rfl rfl ?_
        refine k_if_eq 114 X dX11_manLine_110 (by decide) (fun h_286 => ?_) (fun h_286 => absurd (iv_eq iv_283 (show IV 0 0 0 from (by decide))) h_286)
        refine k_aload_n X dX11_manLine_114 2 rfl ?_
        refine k_callVV (n := 0) (As := []) (st := []) X [(h0, .inr (11, [.int m_thrown, .ref a_tape, .int m_taped, .int m_size, .int m_at2_17, .int m_end2_18, .int m_token2_25, .int m_whole2_26, .int m_nameSize2_23, .int m_fault2_20, .int m_place2_24, .int m_trouble, .ref a_letters, .int m_failed2_19, .int m_hasHouse, .ref a_r, .ref a_fresh, .ref a_st, .ref a_undone, .ref a_kept, .int m_undos, .int m_images, .ref a_from, .ref a_begin, .ref a_motor, .ref a_change, .ref a_startFrame, .ref a_changeFrame, .ref a_lostAt, .ref a_blackAt, .ref a_slips, .ref a_leftArc, .ref a_died, .ref a_arcs, .int m_bestSum, .int m_nearest, .int m_nearestTown, .ref a_there, .ref a_backAt, .ref a_sorted, .ref a_parts, .int m_seed1, .int m_darkNow])), (a_tape, .inl (g.2.2.1, 900, .inl d_tape)), (a_letters, .inl (g.2.2.1, 8, .inl d_letters2_22))] [(a_fresh, .inl (g.2.2.1, 311, .inl d_fresh2_21))] [2, 0, 3] [1] (m_next l g h0 m_thrown a_tape m_taped m_size m_at2_17 m_end2_18 m_token2_25 m_whole2_26 m_nameSize2_23 m_fault2_20 m_place2_24 m_trouble a_letters m_failed2_19 m_hasHouse a_r a_fresh a_st a_undone a_kept m_undos m_images a_from a_begin a_motor a_change a_startFrame a_changeFrame a_lostAt a_blackAt a_slips a_leftArc a_died a_arcs m_bestSum m_nearest m_nearestTown a_there a_backAt a_sorted a_parts m_seed1 m_darkNow d_tape d_letters2_22 (iv_w hv_m_size (by decide) (by decide)) (iv_w iv_28 (by decide) (by decide)) (iv_w iv_282 (by decide) (by decide))) dX11_manLine_115 mw489 mw490 mw491 mw5 mw492 rfl 11 rfl rfl 0 _ rfl (by unfold yOk; decide) rfl (Nat.le_of_ble_eq_true rfl) (Nat.le_of_ble_eq_true rfl) (Nat.le_of_ble_eq_true rfl) (Nat.le_of_ble_eq_true rfl) (Nat.le_of_ble_eq_true rfl) rfl rfl (by decide) rfl (by decide) (by decide) ?_
        rintro w ⟨m_at2_287, m_end2_288, d_letters2_289, m_nameSize2_290, m_token2_291, m_whole2_292, iv_294, iv_295, hq_296, hq_297, hk_298, rfl⟩
        refine k_ws [(a_fresh, .inl (g.2.2.1, 311, .inl d_fresh2_21)), (h0, .inr (11, [.int m_thrown, .ref a_tape, .int m_taped, .int m_size, .int m_at2_287, .int m_end2_288, .int m_token2_291, .int m_whole2_292, .int m_nameSize2_290, .int m_fault2_20, .int m_place2_24, .int m_trouble, .ref a_letters, .int m_failed2_19, .int m_hasHouse, .ref a_r, .ref a_fresh, .ref a_st, .ref a_undone, .ref a_kept, .int m_undos, .int m_images, .ref a_from, .ref a_begin, .ref a_motor, .ref a_change, .ref a_startFrame, .ref a_changeFrame, .ref a_lostAt, .ref a_blackAt, .ref a_slips, .ref a_leftArc, .ref a_died, .ref a_arcs, .int m_bestSum, .int m_nearest, .int m_nearestTown, .ref a_there, .ref a_backAt, .ref a_sorted, .ref a_parts, .int m_seed1, .int m_darkNow])), (a_tape, .inl (g.2.2.1, 900, .inl d_tape)), (a_letters, .inl (g.2.2.1, 8, .inl d_letters2_289))] rfl ?_
        refine k_iconst (v := 0) X dX11_manLine_118 (by decide) ?_
        refine k_istore_n [(3, .int 0), (2, .int 1), (1, .int z_11), (0, .ref h0)] X dX11_manLine_119 (by decide) rfl ?_
        refine k_iload_n X dX11_manLine_120 1 rfl ?_
        refine k_iconst (v := 3) X dX11_manLine_121 (by decide) ?_
        refine k_ic_ne 145 X dX11_manLine_122 (by decide) (fun _ => ?_) (fun h_299 => absurd h_299 (by decide))
        refine k_aload_n X dX11_manLine_145 3 rfl ?_
        refine k_ldcwS (tx := "slip") X dX11_manLine_146 (by decide +kernel) (fun sr_300 hsr_300 => ?_)
        refine k_iconst (v := 0) X dX11_manLine_149 (by decide) ?_
        refine k_bipush (v := 40) X dX11_manLine_150 (by decide) ?_
        refine k_callVI (n := 3) (As := [.ref sr_300, .int 0, .int 40]) (st := []) X [(h0, .inr (11, [.int m_thrown, .ref a_tape, .int m_taped, .int m_size, .int m_at2_287, .int m_end2_288, .int m_token2_291, .int m_whole2_292, .int m_nameSize2_290, .int m_fault2_20, .int m_place2_24, .int m_trouble, .ref a_letters, .int m_failed2_19, .int m_hasHouse, .ref a_r, .ref a_fresh, .ref a_st, .ref a_undone, .ref a_kept, .int m_undos, .int m_images, .ref a_from, .ref a_begin, .ref a_motor, .ref a_change, .ref a_startFrame, .ref a_changeFrame, .ref a_lostAt, .ref a_blackAt, .ref a_slips, .ref a_leftArc, .ref a_died, .ref a_arcs, .int m_bestSum, .int m_nearest, .int m_nearestTown, .ref a_there, .ref a_backAt, .ref a_sorted, .ref a_parts, .int m_seed1, .int m_darkNow])), (a_tape, .inl (g.2.2.1, 900, .inl d_tape)), (a_letters, .inl (g.2.2.1, 8, .inl d_letters2_289))] [(a_fresh, .inl (g.2.2.1, 311, .inl d_fresh2_21))] [1, 2, 3] [0] (m_after l g h0 sr_300 0 40 m_thrown a_tape m_taped m_size m_at2_287 m_end2_288 m_token2_291 m_whole2_292 m_nameSize2_290 m_fault2_20 m_place2_24 m_trouble a_letters m_failed2_19 m_hasHouse a_r a_fresh a_st a_undone a_kept m_undos m_images a_from a_begin a_motor a_change a_startFrame a_changeFrame a_lostAt a_blackAt a_slips a_leftArc a_died a_arcs m_bestSum m_nearest m_nearestTown a_there a_backAt a_sorted a_parts m_seed1 m_darkNow d_tape d_letters2_289 ("slip") (iv_w hv_m_size (by decide) (by decide)) (iv_w iv_294 (by decide) (by decide)) (iv_w iv_295 (by decide) (by decide)) (iv_w iv_283 (by decide) (by decide)) hsr_300 hk_298) dX11_manLine_152 mw523 mw524 mw525 mw5 mw526 rfl 11 rfl rfl 0 _ rfl (by unfold yOk; decide) rfl (Nat.le_of_ble_eq_true rfl) (Nat.le_of_ble_eq_true rfl) (Nat.le_of_ble_eq_true rfl) (Nat.le_of_ble_eq_true rfl) (Nat.le_of_ble_eq_true rfl) rfl rfl (by decide) rfl (by decide) (by decide) ?_
        rintro r_310 w ⟨m_at2_301, m_end2_302, m_failed2_303, m_fault2_304, d_letters2_305, m_nameSize2_306, m_place2_307, m_token2_308, m_whole2_309, iv_311, iv_312, iv_313, hq_314, hq_315, hk_316, rfl⟩
        refine k_ws [(a_fresh, .inl (g.2.2.1, 311, .inl d_fresh2_21)), (h0, .inr (11, [.int m_thrown, .ref a_tape, .int m_taped, .int m_size, .int m_at2_301, .int m_end2_302, .int m_token2_308, .int m_whole2_309, .int m_nameSize2_306, .int m_fault2_304, .int m_place2_307, .int m_trouble, .ref a_letters, .int m_failed2_303, .int m_hasHouse, .ref a_r, .ref a_fresh, .ref a_st, .ref a_undone, .ref a_kept, .int m_undos, .int m_images, .ref a_from, .ref a_begin, .ref a_motor, .ref a_change, .ref a_startFrame, .ref a_changeFrame, .ref a_lostAt, .ref a_blackAt, .ref a_slips, .ref a_leftArc, .ref a_died, .ref a_arcs, .int m_bestSum, .int m_nearest, .int m_nearestTown, .ref a_there, .ref a_backAt, .ref a_sorted, .ref a_parts, .int m_seed1, .int m_darkNow])), (a_tape, .inl (g.2.2.1, 900, .inl d_tape)), (a_letters, .inl (g.2.2.1, 8, .inl d_letters2_305))] rfl ?_
        have e_317 : (0 : Int32).toInt = 0 := by decide
        have e_318 : (40 : Int32).toInt = 40 := by decide
        have iv_319 : IV r_310 0 40 := by have := (show IV 0 0 0 from (by decide)); have := (show IV 40 40 40 from (by decide)); rw [IV]; omega
        refine k_istore [(4, .int r_310), (3, .int 0), (2, .int 1), (1, .int z_11), (0, .ref h0)] X dX11_manLine_155 (by decide) rfl ?_
        refine k_aload_n X dX11_manLine_157 4 rfl ?_
        refine k_get (ci := 11) X inlX11 rfl 13 (by decide) dX11_manLine_158 mw469 1 rfl rfl ?_
        refine k_if_eq 165 X dX11_manLine_161 (by decide) (fun h_320 => ?_) (fun h_320 => ?_)
        · skip
          have iv_321 : IV m_failed2_303 0 0 := iv_meet iv_312 (iv_e h_320 (show IV 0 0 0 from (by decide))) (by decide) (by decide)
          refine k_aload_n X dX11_manLine_165 4 rfl ?_
          refine k_get (ci := 11) X inlX11 rfl 16 (by decide) dX11_manLine_166 mw171 1 rfl rfl ?_
          refine k_iload_n X dX11_manLine_169 3 rfl ?_
          refine k_iload_n X dX11_manLine_170 2 rfl ?_
          refine k_iast [(a_fresh, .inl (g.2.2.1, 311, .inl (upd d_fresh2_21 (z_11 : Int32).toNatClampNeg 1))), (h0, .inr (11, [.int m_thrown, .ref a_tape, .int m_taped, .int m_size, .int m_at2_301, .int m_end2_302, .int m_token2_308, .int m_whole2_309, .int m_nameSize2_306, .int m_fault2_304, .int m_place2_307, .int m_trouble, .ref a_letters, .int m_failed2_303, .int m_hasHouse, .ref a_r, .ref a_fresh, .ref a_st, .ref a_undone, .ref a_kept, .int m_undos, .int m_images, .ref a_from, .ref a_begin, .ref a_motor, .ref a_change, .ref a_startFrame, .ref a_changeFrame, .ref a_lostAt, .ref a_blackAt, .ref a_slips, .ref a_leftArc, .ref a_died, .ref a_arcs, .int m_bestSum, .int m_nearest, .int m_nearestTown, .ref a_there, .ref a_backAt, .ref a_sorted, .ref a_parts, .int m_seed1, .int m_darkNow])), (a_tape, .inl (g.2.2.1, 900, .inl d_tape)), (a_letters, .inl (g.2.2.1, 8, .inl d_letters2_305))] X dX11_manLine_171 0 rfl (iv_in iv_13 (by decide) (by decide)) rfl ?_
          have i_324 : z_11.toInt = 114 + 3 * z_5.toInt := by omega
          refine (fun hg : ∀ fa_322 : Nat → Int32, RInv fa_322 → K16 d_fresh2_21 fa_322 → Wk p l e _ s m args below meth c _ A g _ _ _ [(a_fresh, .inl (g.2.2.1, 311, .inl fa_322)), (h0, .inr (11, [.int m_thrown, .ref a_tape, .int m_taped, .int m_size, .int m_at2_301, .int m_end2_302, .int m_token2_308, .int m_whole2_309, .int m_nameSize2_306, .int m_fault2_304, .int m_place2_307, .int m_trouble, .ref a_letters, .int m_failed2_303, .int m_hasHouse, .ref a_r, .ref a_fresh, .ref a_st, .ref a_undone, .ref a_kept, .int m_undos, .int m_images, .ref a_from, .ref a_begin, .ref a_motor, .ref a_change, .ref a_startFrame, .ref a_changeFrame, .ref a_lostAt, .ref a_blackAt, .ref a_slips, .ref a_leftArc, .ref a_died, .ref a_arcs, .int m_bestSum, .int m_nearest, .int m_nearestTown, .ref a_there, .ref a_backAt, .ref a_sorted, .ref a_parts, .int m_seed1, .int m_darkNow])), (a_tape, .inl (g.2.2.1, 900, .inl d_tape)), (a_letters, .inl (g.2.2.1, 8, .inl d_letters2_305))] _ _ _ => hg _ (w_fr_114_3 hp_31 i_324 (iv_w iv_7 (by decide) (by decide))) (k16_u (by have := iv_13; omega))) (fun fa_322 hR_323 hk_325 => ?_)
          have ek_326 : z_5 = fa_322 (11 : Int32).toNatClampNeg := ek_35.trans (hk_325 _ (by decide)).symm
          refine k_aload_n X dX11_manLine_172 4 rfl ?_
          refine k_get (ci := 11) X inlX11 rfl 16 (by decide) dX11_manLine_173 mw171 1 rfl rfl ?_
          refine k_iload_n X dX11_manLine_176 3 rfl ?_
          refine k_iconst (v := 1) X dX11_manLine_177 (by decide) ?_
          refine k_iadd X dX11_manLine_178 ?_
          refine k_nm (fun z_327 ez_327 => ?_)
          have i_328 : z_327.toInt = z_11.toInt + 1 := in_add ez_327 iv_13 (show IV 1 1 1 from (by decide)) (by decide) (by decide)
          have iv_329 : IV z_327 115 124 := by have := iv_13; have := (show IV 1 1 1 from (by decide)); rw [IV, i_328]; omega
          refine k_iload_n X dX11_manLine_179 1 rfl ?_
          refine k_iast [(a_fresh, .inl (g.2.2.1, 311, .inl (upd fa_322 (z_327 : Int32).toNatClampNeg 0))), (h0, .inr (11, [.int m_thrown, .ref a_tape, .int m_taped, .int m_size, .int m_at2_301, .int m_end2_302, .int m_token2_308, .int m_whole2_309, .int m_nameSize2_306, .int m_fault2_304, .int m_place2_307, .int m_trouble, .ref a_letters, .int m_failed2_303, .int m_hasHouse, .ref a_r, .ref a_fresh, .ref a_st, .ref a_undone, .ref a_kept, .int m_undos, .int m_images, .ref a_from, .ref a_begin, .ref a_motor, .ref a_change, .ref a_startFrame, .ref a_changeFrame, .ref a_lostAt, .ref a_blackAt, .ref a_slips, .ref a_leftArc, .ref a_died, .ref a_arcs, .int m_bestSum, .int m_nearest, .int m_nearestTown, .ref a_there, .ref a_backAt, .ref a_sorted, .ref a_parts, .int m_seed1, .int m_darkNow])), (a_tape, .inl (g.2.2.1, 900, .inl d_tape)), (a_letters, .inl (g.2.2.1, 8, .inl d_letters2_305))] X dX11_manLine_180 0 rfl (iv_in iv_329 (by decide) (by decide)) rfl ?_
          refine (fun hg : ∀ fa_330 : Nat → Int32, RInv fa_330 → K16 fa_322 fa_330 → Wk p l e _ s m args below meth c _ A g _ _ _ [(a_fresh, .inl (g.2.2.1, 311, .inl fa_330)), (h0, .inr (11, [.int m_thrown, .ref a_tape, .int m_taped, .int m_size, .int m_at2_301, .int m_end2_302, .int m_token2_308, .int m_whole2_309, .int m_nameSize2_306, .int m_fault2_304, .int m_place2_307, .int m_trouble, .ref a_letters, .int m_failed2_303, .int m_hasHouse, .ref a_r, .ref a_fresh, .ref a_st, .ref a_undone, .ref a_kept, .int m_undos, .int m_images, .ref a_from, .ref a_begin, .ref a_motor, .ref a_change, .ref a_startFrame, .ref a_changeFrame, .ref a_lostAt, .ref a_blackAt, .ref a_slips, .ref a_leftArc, .ref a_died, .ref a_arcs, .int m_bestSum, .int m_nearest, .int m_nearestTown, .ref a_there, .ref a_backAt, .ref a_sorted, .ref a_parts, .int m_seed1, .int m_darkNow])), (a_tape, .inl (g.2.2.1, 900, .inl d_tape)), (a_letters, .inl (g.2.2.1, 8, .inl d_letters2_305))] _ _ _ => hg _ (w_zero hR_323) (k16_u (by have := iv_329; omega))) (fun fa_330 hR_331 hk_332 => ?_)
          have ek_333 : z_5 = fa_330 (11 : Int32).toNatClampNeg := ek_326.trans (hk_332 _ (by decide)).symm
          refine k_aload_n X dX11_manLine_181 4 rfl ?_
          refine k_get (ci := 11) X inlX11 rfl 16 (by decide) dX11_manLine_182 mw171 1 rfl rfl ?_
          refine k_iload_n X dX11_manLine_185 3 rfl ?_
          refine k_iconst (v := 2) X dX11_manLine_186 (by decide) ?_
          refine k_iadd X dX11_manLine_187 ?_
          refine k_nm (fun z_334 ez_334 => ?_)
          have i_335 : z_334.toInt = z_11.toInt + 2 := in_add ez_334 iv_13 (show IV 2 2 2 from (by decide)) (by decide) (by decide)
          have iv_336 : IV z_334 116 125 := by have := iv_13; have := (show IV 2 2 2 from (by decide)); rw [IV, i_335]; omega
          refine k_iload X dX11_manLine_188 0 rfl ?_
          refine k_iast [(a_fresh, .inl (g.2.2.1, 311, .inl (upd fa_330 (z_334 : Int32).toNatClampNeg r_310))), (h0, .inr (11, [.int m_thrown, .ref a_tape, .int m_taped, .int m_size, .int m_at2_301, .int m_end2_302, .int m_token2_308, .int m_whole2_309, .int m_nameSize2_306, .int m_fault2_304, .int m_place2_307, .int m_trouble, .ref a_letters, .int m_failed2_303, .int m_hasHouse, .ref a_r, .ref a_fresh, .ref a_st, .ref a_undone, .ref a_kept, .int m_undos, .int m_images, .ref a_from, .ref a_begin, .ref a_motor, .ref a_change, .ref a_startFrame, .ref a_changeFrame, .ref a_lostAt, .ref a_blackAt, .ref a_slips, .ref a_leftArc, .ref a_died, .ref a_arcs, .int m_bestSum, .int m_nearest, .int m_nearestTown, .ref a_there, .ref a_backAt, .ref a_sorted, .ref a_parts, .int m_seed1, .int m_darkNow])), (a_tape, .inl (g.2.2.1, 900, .inl d_tape)), (a_letters, .inl (g.2.2.1, 8, .inl d_letters2_305))] X dX11_manLine_190 0 rfl (iv_in iv_336 (by decide) (by decide)) rfl ?_
          have i_339 : z_334.toInt = 116 + 3 * z_5.toInt := by omega
          refine (fun hg : ∀ fa_337 : Nat → Int32, RInv fa_337 → K16 fa_330 fa_337 → Wk p l e _ s m args below meth c _ A g _ _ _ [(a_fresh, .inl (g.2.2.1, 311, .inl fa_337)), (h0, .inr (11, [.int m_thrown, .ref a_tape, .int m_taped, .int m_size, .int m_at2_301, .int m_end2_302, .int m_token2_308, .int m_whole2_309, .int m_nameSize2_306, .int m_fault2_304, .int m_place2_307, .int m_trouble, .ref a_letters, .int m_failed2_303, .int m_hasHouse, .ref a_r, .ref a_fresh, .ref a_st, .ref a_undone, .ref a_kept, .int m_undos, .int m_images, .ref a_from, .ref a_begin, .ref a_motor, .ref a_change, .ref a_startFrame, .ref a_changeFrame, .ref a_lostAt, .ref a_blackAt, .ref a_slips, .ref a_leftArc, .ref a_died, .ref a_arcs, .int m_bestSum, .int m_nearest, .int m_nearestTown, .ref a_there, .ref a_backAt, .ref a_sorted, .ref a_parts, .int m_seed1, .int m_darkNow])), (a_tape, .inl (g.2.2.1, 900, .inl d_tape)), (a_letters, .inl (g.2.2.1, 8, .inl d_letters2_305))] _ _ _ => hg _ (w_rb_116_3 hR_331 i_339 (iv_w iv_7 (by decide) (by decide)) (iv_w iv_319 (by decide) (by decide))) (k16_u (by have := iv_336; omega))) (fun fa_337 hR_338 hk_340 => ?_)
          have ek_341 : z_5 = fa_337 (11 : Int32).toNatClampNeg := ek_333.trans (hk_340 _ (by decide)).symm
          refine k_aload_n X dX11_manLine_191 4 rfl ?_
          refine k_get (ci := 11) X inlX11 rfl 16 (by decide) dX11_manLine_192 mw171 1 rfl rfl ?_
          refine k_bipush (v := 11) X dX11_manLine_195 (by decide) ?_
          refine k_dup2 X dX11_manLine_197 rfl rfl ?_
          refine k_iald X dX11_manLine_198 0 rfl (by unfold vp_in; decide) ?_
          refine k_to z_5 ek_341.symm ?_
          refine k_iconst (v := 1) X dX11_manLine_199 (by decide) ?_
          refine k_iadd X dX11_manLine_200 ?_
          refine k_nm (fun z_342 ez_342 => ?_)
          have i_343 : z_342.toInt = z_5.toInt + 1 := in_add ez_342 iv_7 (show IV 1 1 1 from (by decide)) (by decide) (by decide)
          have iv_344 : IV z_342 1 4 := by have := iv_7; have := (show IV 1 1 1 from (by decide)); rw [IV, i_343]; omega
          refine k_iast [(a_fresh, .inl (g.2.2.1, 311, .inl (upd fa_337 (11 : Int32).toNatClampNeg z_342))), (h0, .inr (11, [.int m_thrown, .ref a_tape, .int m_taped, .int m_size, .int m_at2_301, .int m_end2_302, .int m_token2_308, .int m_whole2_309, .int m_nameSize2_306, .int m_fault2_304, .int m_place2_307, .int m_trouble, .ref a_letters, .int m_failed2_303, .int m_hasHouse, .ref a_r, .ref a_fresh, .ref a_st, .ref a_undone, .ref a_kept, .int m_undos, .int m_images, .ref a_from, .ref a_begin, .ref a_motor, .ref a_change, .ref a_startFrame, .ref a_changeFrame, .ref a_lostAt, .ref a_blackAt, .ref a_slips, .ref a_leftArc, .ref a_died, .ref a_arcs, .int m_bestSum, .int m_nearest, .int m_nearestTown, .ref a_there, .ref a_backAt, .ref a_sorted, .ref a_parts, .int m_seed1, .int m_darkNow])), (a_tape, .inl (g.2.2.1, 900, .inl d_tape)), (a_letters, .inl (g.2.2.1, 8, .inl d_letters2_305))] X dX11_manLine_201 0 rfl (by unfold vp_in; decide) rfl ?_
          refine (fun hg : ∀ fa_345 : Nat → Int32, RInv fa_345 → Wk p l e _ s m args below meth c _ A g _ _ _ [(a_fresh, .inl (g.2.2.1, 311, .inl fa_345)), (h0, .inr (11, [.int m_thrown, .ref a_tape, .int m_taped, .int m_size, .int m_at2_301, .int m_end2_302, .int m_token2_308, .int m_whole2_309, .int m_nameSize2_306, .int m_fault2_304, .int m_place2_307, .int m_trouble, .ref a_letters, .int m_failed2_303, .int m_hasHouse, .ref a_r, .ref a_fresh, .ref a_st, .ref a_undone, .ref a_kept, .int m_undos, .int m_images, .ref a_from, .ref a_begin, .ref a_motor, .ref a_change, .ref a_startFrame, .ref a_changeFrame, .ref a_lostAt, .ref a_blackAt, .ref a_slips, .ref a_leftArc, .ref a_died, .ref a_arcs, .int m_bestSum, .int m_nearest, .int m_nearestTown, .ref a_there, .ref a_backAt, .ref a_sorted, .ref a_parts, .int m_seed1, .int m_darkNow])), (a_tape, .inl (g.2.2.1, 900, .inl d_tape)), (a_letters, .inl (g.2.2.1, 8, .inl d_letters2_305))] _ _ _ => hg _ (w_rb_11 hR_338 (iv_w iv_344 (by decide) (by decide)))) (fun fa_345 hR_346 => ?_)
          exact k_vret X hr dX11_manLine_202 (Nat.le_of_ble_eq_true rfl) (Nat.le_of_ble_eq_true rfl) [1, 2, 3, 0] (by decide) rfl rfl ⟨m_at2_301, m_end2_302, m_failed2_303, m_fault2_304, fa_345, d_letters2_305, m_nameSize2_306, m_place2_307, m_token2_308, m_whole2_309, (iv_w iv_311 (by decide) (by decide)), (iv_w iv_321 (by decide) (by decide)), (iv_w iv_313 (by decide) (by decide)), hR_346, (by omega), hk_316, rfl⟩
        · skip
          have iv_348 : IV m_failed2_303 1 1 := iv_neL h_320 iv_312 (show IV 0 0 0 from (by decide)) (by decide)
          exact k_vret X hr dX11_manLine_164 (Nat.le_of_ble_eq_true rfl) (Nat.le_of_ble_eq_true rfl) [1, 2, 3, 0] (by decide) rfl rfl ⟨m_at2_301, m_end2_302, m_failed2_303, m_fault2_304, d_fresh2_21, d_letters2_305, m_nameSize2_306, m_place2_307, m_token2_308, m_whole2_309, (iv_w iv_311 (by decide) (by decide)), (iv_w iv_348 (by decide) (by decide)), (iv_w iv_313 (by decide) (by decide)), hp_31, (by omega), hk_316, rfl⟩
    · skip
      have hc_349 := hk_39.resolve_left h_40
      have iv_350 : IV m_token2_25 2 2 := iv_meet (iv_any m_token2_25) hc_349.1 (by decide) (by decide)
      have hc_351 := hk_34 (iv_eq iv_350 (show IV 2 2 2 from (by decide)))
      have iv_352 : IV m_nameSize2_23 0 8 := iv_meet iv_30 hc_351 (by decide) (by decide)
      have iv_353 : IV m_failed2_19 0 0 := iv_meet iv_29 hc_349.2 (by decide) (by decide)
      have iv_354 : IV r_37 1 1 := iv_neL h_40 iv_38 (show IV 0 0 0 from (by decide)) (by decide)
      refine k_iconst (v := 0) X dX11_manLine_45 (by decide) ?_
      refine k_goto 92 X dX11_manLine_46 (by decide) ?_
      refine k_istore_n [(2, .int 0), (1, .int z_11), (0, .ref h0)] X dX11_manLine_92 (by decide) rfl ?_
      refine k_iload_n X dX11_manLine_93 0 rfl ?_
      refine k_if_ge 106 X dX11_manLine_94 (by decide) (fun _ => ?_) (fun h_355 => absurd (by decide) h_355)
      refine k_aload_n X dX11_manLine_106 2 rfl ?_
      refine k_get (ci := 11) X inlX11 rfl 13 (by decide) dX11_manLine_107 mw469 2 rfl rfl ?_
      refine k_if_eq 114 X dX11_manLine_110 (by decide) (fun h_356 => ?_) (fun h_356 => absurd (iv_eq iv_353 (show IV 0 0 0 from (by decide))) h_356)
      refine k_aload_n X dX11_manLine_114 2 rfl ?_
      refine k_callVV (n := 0) (As := []) (st := []) X [(h0, .inr (11, [.int m_thrown, .ref a_tape, .int m_taped, .int m_size, .int m_at2_17, .int m_end2_18, .int m_token2_25, .int m_whole2_26, .int m_nameSize2_23, .int m_fault2_20, .int m_place2_24, .int m_trouble, .ref a_letters, .int m_failed2_19, .int m_hasHouse, .ref a_r, .ref a_fresh, .ref a_st, .ref a_undone, .ref a_kept, .int m_undos, .int m_images, .ref a_from, .ref a_begin, .ref a_motor, .ref a_change, .ref a_startFrame, .ref a_changeFrame, .ref a_lostAt, .ref a_blackAt, .ref a_slips, .ref a_leftArc, .ref a_died, .ref a_arcs, .int m_bestSum, .int m_nearest, .int m_nearestTown, .ref a_there, .ref a_backAt, .ref a_sorted, .ref a_parts, .int m_seed1, .int m_darkNow])), (a_tape, .inl (g.2.2.1, 900, .inl d_tape)), (a_letters, .inl (g.2.2.1, 8, .inl d_letters2_22))] [(a_fresh, .inl (g.2.2.1, 311, .inl d_fresh2_21))] [2, 0, 3] [1] (m_next l g h0 m_thrown a_tape m_taped m_size m_at2_17 m_end2_18 m_token2_25 m_whole2_26 m_nameSize2_23 m_fault2_20 m_place2_24 m_trouble a_letters m_failed2_19 m_hasHouse a_r a_fresh a_st a_undone a_kept m_undos m_images a_from a_begin a_motor a_change a_startFrame a_changeFrame a_lostAt a_blackAt a_slips a_leftArc a_died a_arcs m_bestSum m_nearest m_nearestTown a_there a_backAt a_sorted a_parts m_seed1 m_darkNow d_tape d_letters2_22 (iv_w hv_m_size (by decide) (by decide)) (iv_w iv_28 (by decide) (by decide)) (iv_w iv_352 (by decide) (by decide))) dX11_manLine_115 mw489 mw490 mw491 mw5 mw492 rfl 11 rfl rfl 0 _ rfl (by unfold yOk; decide) rfl (Nat.le_of_ble_eq_true rfl) (Nat.le_of_ble_eq_true rfl) (Nat.le_of_ble_eq_true rfl) (Nat.le_of_ble_eq_true rfl) (Nat.le_of_ble_eq_true rfl) rfl rfl (by decide) rfl (by decide) (by decide) ?_
      rintro w ⟨m_at2_357, m_end2_358, d_letters2_359, m_nameSize2_360, m_token2_361, m_whole2_362, iv_364, iv_365, hq_366, hq_367, hk_368, rfl⟩
      refine k_ws [(a_fresh, .inl (g.2.2.1, 311, .inl d_fresh2_21)), (h0, .inr (11, [.int m_thrown, .ref a_tape, .int m_taped, .int m_size, .int m_at2_357, .int m_end2_358, .int m_token2_361, .int m_whole2_362, .int m_nameSize2_360, .int m_fault2_20, .int m_place2_24, .int m_trouble, .ref a_letters, .int m_failed2_19, .int m_hasHouse, .ref a_r, .ref a_fresh, .ref a_st, .ref a_undone, .ref a_kept, .int m_undos, .int m_images, .ref a_from, .ref a_begin, .ref a_motor, .ref a_change, .ref a_startFrame, .ref a_changeFrame, .ref a_lostAt, .ref a_blackAt, .ref a_slips, .ref a_leftArc, .ref a_died, .ref a_arcs, .int m_bestSum, .int m_nearest, .int m_nearestTown, .ref a_there, .ref a_backAt, .ref a_sorted, .ref a_parts, .int m_seed1, .int m_darkNow])), (a_tape, .inl (g.2.2.1, 900, .inl d_tape)), (a_letters, .inl (g.2.2.1, 8, .inl d_letters2_359))] rfl ?_
      refine k_iconst (v := 0) X dX11_manLine_118 (by decide) ?_
      refine k_istore_n [(3, .int 0), (2, .int 0), (1, .int z_11), (0, .ref h0)] X dX11_manLine_119 (by decide) rfl ?_
      refine k_iload_n X dX11_manLine_120 1 rfl ?_
      refine k_iconst (v := 3) X dX11_manLine_121 (by decide) ?_
      refine k_ic_ne 145 X dX11_manLine_122 (by decide) (fun _ => ?_) (fun h_369 => absurd h_369 (by decide))
      refine k_aload_n X dX11_manLine_145 3 rfl ?_
      refine k_ldcwS (tx := "slip") X dX11_manLine_146 (by decide +kernel) (fun sr_370 hsr_370 => ?_)
      refine k_iconst (v := 0) X dX11_manLine_149 (by decide) ?_
      refine k_bipush (v := 40) X dX11_manLine_150 (by decide) ?_
      refine k_callVI (n := 3) (As := [.ref sr_370, .int 0, .int 40]) (st := []) X [(h0, .inr (11, [.int m_thrown, .ref a_tape, .int m_taped, .int m_size, .int m_at2_357, .int m_end2_358, .int m_token2_361, .int m_whole2_362, .int m_nameSize2_360, .int m_fault2_20, .int m_place2_24, .int m_trouble, .ref a_letters, .int m_failed2_19, .int m_hasHouse, .ref a_r, .ref a_fresh, .ref a_st, .ref a_undone, .ref a_kept, .int m_undos, .int m_images, .ref a_from, .ref a_begin, .ref a_motor, .ref a_change, .ref a_startFrame, .ref a_changeFrame, .ref a_lostAt, .ref a_blackAt, .ref a_slips, .ref a_leftArc, .ref a_died, .ref a_arcs, .int m_bestSum, .int m_nearest, .int m_nearestTown, .ref a_there, .ref a_backAt, .ref a_sorted, .ref a_parts, .int m_seed1, .int m_darkNow])), (a_tape, .inl (g.2.2.1, 900, .inl d_tape)), (a_letters, .inl (g.2.2.1, 8, .inl d_letters2_359))] [(a_fresh, .inl (g.2.2.1, 311, .inl d_fresh2_21))] [1, 2, 3] [0] (m_after l g h0 sr_370 0 40 m_thrown a_tape m_taped m_size m_at2_357 m_end2_358 m_token2_361 m_whole2_362 m_nameSize2_360 m_fault2_20 m_place2_24 m_trouble a_letters m_failed2_19 m_hasHouse a_r a_fresh a_st a_undone a_kept m_undos m_images a_from a_begin a_motor a_change a_startFrame a_changeFrame a_lostAt a_blackAt a_slips a_leftArc a_died a_arcs m_bestSum m_nearest m_nearestTown a_there a_backAt a_sorted a_parts m_seed1 m_darkNow d_tape d_letters2_359 ("slip") (iv_w hv_m_size (by decide) (by decide)) (iv_w iv_364 (by decide) (by decide)) (iv_w iv_365 (by decide) (by decide)) (iv_w iv_353 (by decide) (by decide)) hsr_370 hk_368) dX11_manLine_152 mw523 mw524 mw525 mw5 mw526 rfl 11 rfl rfl 0 _ rfl (by unfold yOk; decide) rfl (Nat.le_of_ble_eq_true rfl) (Nat.le_of_ble_eq_true rfl) (Nat.le_of_ble_eq_true rfl) (Nat.le_of_ble_eq_true rfl) (Nat.le_of_ble_eq_true rfl) rfl rfl (by decide) rfl (by decide) (by decide) ?_
      rintro r_380 w ⟨m_at2_371, m_end2_372, m_failed2_373, m_fault2_374, d_letters2_375, m_nameSize2_376, m_place2_377, m_token2_378, m_whole2_379, iv_381, iv_382, iv_383, hq_384, hq_385, hk_386, rfl⟩
      refine k_ws [(a_fresh, .inl (g.2.2.1, 311, .inl d_fresh2_21)), (h0, .inr (11, [.int m_thrown, .ref a_tape, .int m_taped, .int m_size, .int m_at2_371, .int m_end2_372, .int m_token2_378, .int m_whole2_379, .int m_nameSize2_376, .int m_fault2_374, .int m_place2_377, .int m_trouble, .ref a_letters, .int m_failed2_373, .int m_hasHouse, .ref a_r, .ref a_fresh, .ref a_st, .ref a_undone, .ref a_kept, .int m_undos, .int m_images, .ref a_from, .ref a_begin, .ref a_motor, .ref a_change, .ref a_startFrame, .ref a_changeFrame, .ref a_lostAt, .ref a_blackAt, .ref a_slips, .ref a_leftArc, .ref a_died, .ref a_arcs, .int m_bestSum, .int m_nearest, .int m_nearestTown, .ref a_there, .ref a_backAt, .ref a_sorted, .ref a_parts, .int m_seed1, .int m_darkNow])), (a_tape, .inl (g.2.2.1, 900, .inl d_tape)), (a_letters, .inl (g.2.2.1, 8, .inl d_letters2_375))] rfl ?_
      have e_387 : (0 : Int32).toInt = 0 := by decide
      have e_388 : (40 : Int32).toInt = 40 := by decide
      have iv_389 : IV r_380 0 40 := by have := (show IV 0 0 0 from (by decide)); have := (show IV 40 40 40 from (by decide)); rw [IV]; omega
      refine k_istore [(4, .int r_380), (3, .int 0), (2, .int 0), (1, .int z_11), (0, .ref h0)] X dX11_manLine_155 (by decide) rfl ?_
      refine k_aload_n X dX11_manLine_157 4 rfl ?_
      refine k_get (ci := 11) X inlX11 rfl 13 (by decide) dX11_manLine_158 mw469 1 rfl rfl ?_
      refine k_if_eq 165 X dX11_manLine_161 (by decide) (fun h_390 => ?_) (fun h_390 => ?_)
      · skip
        have iv_391 : IV m_failed2_373 0 0 := iv_meet iv_382 (iv_e h_390 (show IV 0 0 0 from (by decide))) (by decide) (by decide)
        refine k_aload_n X dX11_manLine_165 4 rfl ?_
        refine k_get (ci := 11) X inlX11 rfl 16 (by decide) dX11_manLine_166 mw171 1 rfl rfl ?_
        refine k_iload_n X dX11_manLine_169 3 rfl ?_
        refine k_iload_n X dX11_manLine_170 2 rfl ?_
        refine k_iast [(a_fresh, .inl (g.2.2.1, 311, .inl (upd d_fresh2_21 (z_11 : Int32).toNatClampNeg 0))), (h0, .inr (11, [.int m_thrown, .ref a_tape, .int m_taped, .int m_size, .int m_at2_371, .int m_end2_372, .int m_token2_378, .int m_whole2_379, .int m_nameSize2_376, .int m_fault2_374, .int m_place2_377, .int m_trouble, .ref a_letters, .int m_failed2_373, .int m_hasHouse, .ref a_r, .ref a_fresh, .ref a_st, .ref a_undone, .ref a_kept, .int m_undos, .int m_images, .ref a_from, .ref a_begin, .ref a_motor, .ref a_change, .ref a_startFrame, .ref a_changeFrame, .ref a_lostAt, .ref a_blackAt, .ref a_slips, .ref a_leftArc, .ref a_died, .ref a_arcs, .int m_bestSum, .int m_nearest, .int m_nearestTown, .ref a_there, .ref a_backAt, .ref a_sorted, .ref a_parts, .int m_seed1, .int m_darkNow])), (a_tape, .inl (g.2.2.1, 900, .inl d_tape)), (a_letters, .inl (g.2.2.1, 8, .inl d_letters2_375))] X dX11_manLine_171 0 rfl (iv_in iv_13 (by decide) (by decide)) rfl ?_
        refine (fun hg : ∀ fa_392 : Nat → Int32, RInv fa_392 → K16 d_fresh2_21 fa_392 → Wk p l e _ s m args below meth c _ A g _ _ _ [(a_fresh, .inl (g.2.2.1, 311, .inl fa_392)), (h0, .inr (11, [.int m_thrown, .ref a_tape, .int m_taped, .int m_size, .int m_at2_371, .int m_end2_372, .int m_token2_378, .int m_whole2_379, .int m_nameSize2_376, .int m_fault2_374, .int m_place2_377, .int m_trouble, .ref a_letters, .int m_failed2_373, .int m_hasHouse, .ref a_r, .ref a_fresh, .ref a_st, .ref a_undone, .ref a_kept, .int m_undos, .int m_images, .ref a_from, .ref a_begin, .ref a_motor, .ref a_change, .ref a_startFrame, .ref a_changeFrame, .ref a_lostAt, .ref a_blackAt, .ref a_slips, .ref a_leftArc, .ref a_died, .ref a_arcs, .int m_bestSum, .int m_nearest, .int m_nearestTown, .ref a_there, .ref a_backAt, .ref a_sorted, .ref a_parts, .int m_seed1, .int m_darkNow])), (a_tape, .inl (g.2.2.1, 900, .inl d_tape)), (a_letters, .inl (g.2.2.1, 8, .inl d_letters2_375))] _ _ _ => hg _ (w_zero hp_31) (k16_u (by have := iv_13; omega))) (fun fa_392 hR_393 hk_394 => ?_)
        have ek_395 : z_5 = fa_392 (11 : Int32).toNatClampNeg := ek_35.trans (hk_394 _ (by decide)).symm
        refine k_aload_n X dX11_manLine_172 4 rfl ?_
        refine k_get (ci := 11) X inlX11 rfl 16 (by decide) dX11_manLine_173 mw171 1 rfl rfl ?_
        refine k_iload_n X dX11_manLine_176 3 rfl ?_
        refine k_iconst (v := 1) X dX11_manLine_177 (by decide) ?_
        refine k_iadd X dX11_manLine_178 ?_
        refine k_nm (fun z_396 ez_396 => ?_)
        have i_397 : z_396.toInt = z_11.toInt + 1 := in_add ez_396 iv_13 (show IV 1 1 1 from (by decide)) (by decide) (by decide)
        have iv_398 : IV z_396 115 124 := by have := iv_13; have := (show IV 1 1 1 from (by decide)); rw [IV, i_397]; omega
        refine k_iload_n X dX11_manLine_179 1 rfl ?_
        refine k_iast [(a_fresh, .inl (g.2.2.1, 311, .inl (upd fa_392 (z_396 : Int32).toNatClampNeg 0))), (h0, .inr (11, [.int m_thrown, .ref a_tape, .int m_taped, .int m_size, .int m_at2_371, .int m_end2_372, .int m_token2_378, .int m_whole2_379, .int m_nameSize2_376, .int m_fault2_374, .int m_place2_377, .int m_trouble, .ref a_letters, .int m_failed2_373, .int m_hasHouse, .ref a_r, .ref a_fresh, .ref a_st, .ref a_undone, .ref a_kept, .int m_undos, .int m_images, .ref a_from, .ref a_begin, .ref a_motor, .ref a_change, .ref a_startFrame, .ref a_changeFrame, .ref a_lostAt, .ref a_blackAt, .ref a_slips, .ref a_leftArc, .ref a_died, .ref a_arcs, .int m_bestSum, .int m_nearest, .int m_nearestTown, .ref a_there, .ref a_backAt, .ref a_sorted, .ref a_parts, .int m_seed1, .int m_darkNow])), (a_tape, .inl (g.2.2.1, 900, .inl d_tape)), (a_letters, .inl (g.2.2.1, 8, .inl d_letters2_375))] X dX11_manLine_180 0 rfl (iv_in iv_398 (by decide) (by decide)) rfl ?_
        refine (fun hg : ∀ fa_399 : Nat → Int32, RInv fa_399 → K16 fa_392 fa_399 → Wk p l e _ s m args below meth c _ A g _ _ _ [(a_fresh, .inl (g.2.2.1, 311, .inl fa_399)), (h0, .inr (11, [.int m_thrown, .ref a_tape, .int m_taped, .int m_size, .int m_at2_371, .int m_end2_372, .int m_token2_378, .int m_whole2_379, .int m_nameSize2_376, .int m_fault2_374, .int m_place2_377, .int m_trouble, .ref a_letters, .int m_failed2_373, .int m_hasHouse, .ref a_r, .ref a_fresh, .ref a_st, .ref a_undone, .ref a_kept, .int m_undos, .int m_images, .ref a_from, .ref a_begin, .ref a_motor, .ref a_change, .ref a_startFrame, .ref a_changeFrame, .ref a_lostAt, .ref a_blackAt, .ref a_slips, .ref a_leftArc, .ref a_died, .ref a_arcs, .int m_bestSum, .int m_nearest, .int m_nearestTown, .ref a_there, .ref a_backAt, .ref a_sorted, .ref a_parts, .int m_seed1, .int m_darkNow])), (a_tape, .inl (g.2.2.1, 900, .inl d_tape)), (a_letters, .inl (g.2.2.1, 8, .inl d_letters2_375))] _ _ _ => hg _ (w_zero hR_393) (k16_u (by have := iv_398; omega))) (fun fa_399 hR_400 hk_401 => ?_)
        have ek_402 : z_5 = fa_399 (11 : Int32).toNatClampNeg := ek_395.trans (hk_401 _ (by decide)).symm
        refine k_aload_n X dX11_manLine_181 4 rfl ?_
        refine k_get (ci := 11) X inlX11 rfl 16 (by decide) dX11_manLine_182 mw171 1 rfl rfl ?_
        refine k_iload_n X dX11_manLine_185 3 rfl ?_
        refine k_iconst (v := 2) X dX11_manLine_186 (by decide) ?_
        refine k_iadd X dX11_manLine_187 ?_
        refine k_nm (fun z_403 ez_403 => ?_)
        have i_404 : z_403.toInt = z_11.toInt + 2 := in_add ez_403 iv_13 (show IV 2 2 2 from (by decide)) (by decide) (by decide)
        have iv_405 : IV z_403 116 125 := by have := iv_13; have := (show IV 2 2 2 from (by decide)); rw [IV, i_404]; omega
        refine k_iload X dX11_manLine_188 0 rfl ?_
        refine k_iast [(a_fresh, .inl (g.2.2.1, 311, .inl (upd fa_399 (z_403 : Int32).toNatClampNeg r_380))), (h0, .inr (11, [.int m_thrown, .ref a_tape, .int m_taped, .int m_size, .int m_at2_371, .int m_end2_372, .int m_token2_378, .int m_whole2_379, .int m_nameSize2_376, .int m_fault2_374, .int m_place2_377, .int m_trouble, .ref a_letters, .int m_failed2_373, .int m_hasHouse, .ref a_r, .ref a_fresh, .ref a_st, .ref a_undone, .ref a_kept, .int m_undos, .int m_images, .ref a_from, .ref a_begin, .ref a_motor, .ref a_change, .ref a_startFrame, .ref a_changeFrame, .ref a_lostAt, .ref a_blackAt, .ref a_slips, .ref a_leftArc, .ref a_died, .ref a_arcs, .int m_bestSum, .int m_nearest, .int m_nearestTown, .ref a_there, .ref a_backAt, .ref a_sorted, .ref a_parts, .int m_seed1, .int m_darkNow])), (a_tape, .inl (g.2.2.1, 900, .inl d_tape)), (a_letters, .inl (g.2.2.1, 8, .inl d_letters2_375))] X dX11_manLine_190 0 rfl (iv_in iv_405 (by decide) (by decide)) rfl ?_
        have i_408 : z_403.toInt = 116 + 3 * z_5.toInt := by omega
        refine (fun hg : ∀ fa_406 : Nat → Int32, RInv fa_406 → K16 fa_399 fa_406 → Wk p l e _ s m args below meth c _ A g _ _ _ [(a_fresh, .inl (g.2.2.1, 311, .inl fa_406)), (h0, .inr (11, [.int m_thrown, .ref a_tape, .int m_taped, .int m_size, .int m_at2_371, .int m_end2_372, .int m_token2_378, .int m_whole2_379, .int m_nameSize2_376, .int m_fault2_374, .int m_place2_377, .int m_trouble, .ref a_letters, .int m_failed2_373, .int m_hasHouse, .ref a_r, .ref a_fresh, .ref a_st, .ref a_undone, .ref a_kept, .int m_undos, .int m_images, .ref a_from, .ref a_begin, .ref a_motor, .ref a_change, .ref a_startFrame, .ref a_changeFrame, .ref a_lostAt, .ref a_blackAt, .ref a_slips, .ref a_leftArc, .ref a_died, .ref a_arcs, .int m_bestSum, .int m_nearest, .int m_nearestTown, .ref a_there, .ref a_backAt, .ref a_sorted, .ref a_parts, .int m_seed1, .int m_darkNow])), (a_tape, .inl (g.2.2.1, 900, .inl d_tape)), (a_letters, .inl (g.2.2.1, 8, .inl d_letters2_375))] _ _ _ => hg _ (w_rb_116_3 hR_400 i_408 (iv_w iv_7 (by decide) (by decide)) (iv_w iv_389 (by decide) (by decide))) (k16_u (by have := iv_405; omega))) (fun fa_406 hR_407 hk_409 => ?_)
        have ek_410 : z_5 = fa_406 (11 : Int32).toNatClampNeg := ek_402.trans (hk_409 _ (by decide)).symm
        refine k_aload_n X dX11_manLine_191 4 rfl ?_
        refine k_get (ci := 11) X inlX11 rfl 16 (by decide) dX11_manLine_192 mw171 1 rfl rfl ?_
        refine k_bipush (v := 11) X dX11_manLine_195 (by decide) ?_
        refine k_dup2 X dX11_manLine_197 rfl rfl ?_
        refine k_iald X dX11_manLine_198 0 rfl (by unfold vp_in; decide) ?_
        refine k_to z_5 ek_410.symm ?_
        refine k_iconst (v := 1) X dX11_manLine_199 (by decide) ?_
        refine k_iadd X dX11_manLine_200 ?_
        refine k_nm (fun z_411 ez_411 => ?_)
        have i_412 : z_411.toInt = z_5.toInt + 1 := in_add ez_411 iv_7 (show IV 1 1 1 from (by decide)) (by decide) (by decide)
        have iv_413 : IV z_411 1 4 := by have := iv_7; have := (show IV 1 1 1 from (by decide)); rw [IV, i_412]; omega
        refine k_iast [(a_fresh, .inl (g.2.2.1, 311, .inl (upd fa_406 (11 : Int32).toNatClampNeg z_411))), (h0, .inr (11, [.int m_thrown, .ref a_tape, .int m_taped, .int m_size, .int m_at2_371, .int m_end2_372, .int m_token2_378, .int m_whole2_379, .int m_nameSize2_376, .int m_fault2_374, .int m_place2_377, .int m_trouble, .ref a_letters, .int m_failed2_373, .int m_hasHouse, .ref a_r, .ref a_fresh, .ref a_st, .ref a_undone, .ref a_kept, .int m_undos, .int m_images, .ref a_from, .ref a_begin, .ref a_motor, .ref a_change, .ref a_startFrame, .ref a_changeFrame, .ref a_lostAt, .ref a_blackAt, .ref a_slips, .ref a_leftArc, .ref a_died, .ref a_arcs, .int m_bestSum, .int m_nearest, .int m_nearestTown, .ref a_there, .ref a_backAt, .ref a_sorted, .ref a_parts, .int m_seed1, .int m_darkNow])), (a_tape, .inl (g.2.2.1, 900, .inl d_tape)), (a_letters, .inl (g.2.2.1, 8, .inl d_letters2_375))] X dX11_manLine_201 0 rfl (by unfold vp_in; decide) rfl ?_
        refine (fun hg : ∀ fa_414 : Nat → Int32, RInv fa_414 → Wk p l e _ s m args below meth c _ A g _ _ _ [(a_fresh, .inl (g.2.2.1, 311, .inl fa_414)), (h0, .inr (11, [.int m_thrown, .ref a_tape, .int m_taped, .int m_size, .int m_at2_371, .int m_end2_372, .int m_token2_378, .int m_whole2_379, .int m_nameSize2_376, .int m_fault2_374, .int m_place2_377, .int m_trouble, .ref a_letters, .int m_failed2_373, .int m_hasHouse, .ref a_r, .ref a_fresh, .ref a_st, .ref a_undone, .ref a_kept, .int m_undos, .int m_images, .ref a_from, .ref a_begin, .ref a_motor, .ref a_change, .ref a_startFrame, .ref a_changeFrame, .ref a_lostAt, .ref a_blackAt, .ref a_slips, .ref a_leftArc, .ref a_died, .ref a_arcs, .int m_bestSum, .int m_nearest, .int m_nearestTown, .ref a_there, .ref a_backAt, .ref a_sorted, .ref a_parts, .int m_seed1, .int m_darkNow])), (a_tape, .inl (g.2.2.1, 900, .inl d_tape)), (a_letters, .inl (g.2.2.1, 8, .inl d_letters2_375))] _ _ _ => hg _ (w_rb_11 hR_407 (iv_w iv_413 (by decide) (by decide)))) (fun fa_414 hR_415 => ?_)
        exact k_vret X hr dX11_manLine_202 (Nat.le_of_ble_eq_true rfl) (Nat.le_of_ble_eq_true rfl) [1, 2, 3, 0] (by decide) rfl rfl ⟨m_at2_371, m_end2_372, m_failed2_373, m_fault2_374, fa_414, d_letters2_375, m_nameSize2_376, m_place2_377, m_token2_378, m_whole2_379, (iv_w iv_381 (by decide) (by decide)), (iv_w iv_391 (by decide) (by decide)), (iv_w iv_383 (by decide) (by decide)), hR_415, (by omega), hk_386, rfl⟩
      · skip
        have iv_417 : IV m_failed2_373 1 1 := iv_neL h_390 iv_382 (show IV 0 0 0 from (by decide)) (by decide)
        exact k_vret X hr dX11_manLine_164 (Nat.le_of_ble_eq_true rfl) (Nat.le_of_ble_eq_true rfl) [1, 2, 3, 0] (by decide) rfl rfl ⟨m_at2_371, m_end2_372, m_failed2_373, m_fault2_374, d_fresh2_21, d_letters2_375, m_nameSize2_376, m_place2_377, m_token2_378, m_whole2_379, (iv_w iv_381 (by decide) (by decide)), (iv_w iv_417 (by decide) (by decide)), (iv_w iv_383 (by decide) (by decide)), hp_31, (by omega), hk_386, rfl⟩
  · skip
    have iv_418 : IV m_failed 1 1 := iv_neL h_1 hv_m_failed (show IV 0 0 0 from (by decide)) (by decide)
    exact k_vret X hr dX11_manLine_7 (Nat.le_of_ble_eq_true rfl) (Nat.le_of_ble_eq_true rfl) [0, 1, 2, 3] (by decide) rfl rfl ⟨m_at, m_end, m_failed, m_fault, d_fresh, d_letters, m_nameSize, m_place, m_token, m_whole, (iv_w hv_m_end (by decide) (by decide)), (iv_w iv_418 (by decide) (by decide)), (iv_w hv_m_nameSize (by decide) (by decide)), hp_d_fresh, (by omega), hc_1, rfl⟩

theorem dX11_scratchLine_0 : decode cX11_scratchLine 0 = .ok (.aload_n 0, 1) := by decide +kernel
theorem dX11_scratchLine_1 : decode cX11_scratchLine 1 = .ok (.getfield 121, 3) := by decide +kernel
theorem dX11_scratchLine_4 : decode cX11_scratchLine 4 = .ok (.ifCond .eq 4, 3) := by decide +kernel
theorem dX11_scratchLine_7 : decode cX11_scratchLine 7 = .ok (.return_, 1) := by decide +kernel
theorem dX11_scratchLine_8 : decode cX11_scratchLine 8 = .ok (.sipush 155, 3) := by decide +kernel
theorem dX11_scratchLine_11 : decode cX11_scratchLine 11 = .ok (.iconst 2, 1) := by decide +kernel
theorem dX11_scratchLine_12 : decode cX11_scratchLine 12 = .ok (.aload_n 0, 1) := by decide +kernel
theorem dX11_scratchLine_13 : decode cX11_scratchLine 13 = .ok (.getfield 23, 3) := by decide +kernel
theorem dX11_scratchLine_16 : decode cX11_scratchLine 16 = .ok (.bipush 14, 2) := by decide +kernel
theorem dX11_scratchLine_18 : decode cX11_scratchLine 18 = .ok (.iaload, 1) := by decide +kernel
theorem dX11_scratchLine_19 : decode cX11_scratchLine 19 = .ok (.imul, 1) := by decide +kernel
theorem dX11_scratchLine_20 : decode cX11_scratchLine 20 = .ok (.iadd, 1) := by decide +kernel
theorem dX11_scratchLine_21 : decode cX11_scratchLine 21 = .ok (.istore_n 1, 1) := by decide +kernel
theorem dX11_scratchLine_22 : decode cX11_scratchLine 22 = .ok (.aload_n 0, 1) := by decide +kernel
theorem dX11_scratchLine_23 : decode cX11_scratchLine 23 = .ok (.getfield 23, 3) := by decide +kernel
theorem dX11_scratchLine_26 : decode cX11_scratchLine 26 = .ok (.iload_n 1, 1) := by decide +kernel
theorem dX11_scratchLine_27 : decode cX11_scratchLine 27 = .ok (.aload_n 0, 1) := by decide +kernel
theorem dX11_scratchLine_28 : decode cX11_scratchLine 28 = .ok (.invokevirtual 288, 3) := by decide +kernel
theorem dX11_scratchLine_31 : decode cX11_scratchLine 31 = .ok (.iastore, 1) := by decide +kernel
theorem dX11_scratchLine_32 : decode cX11_scratchLine 32 = .ok (.aload_n 0, 1) := by decide +kernel
theorem dX11_scratchLine_33 : decode cX11_scratchLine 33 = .ok (.getfield 121, 3) := by decide +kernel
theorem dX11_scratchLine_36 : decode cX11_scratchLine 36 = .ok (.ifCond .ne 21, 3) := by decide +kernel
theorem dX11_scratchLine_39 : decode cX11_scratchLine 39 = .ok (.aload_n 0, 1) := by decide +kernel
theorem dX11_scratchLine_40 : decode cX11_scratchLine 40 = .ok (.getfield 23, 3) := by decide +kernel
theorem dX11_scratchLine_43 : decode cX11_scratchLine 43 = .ok (.iload_n 1, 1) := by decide +kernel
theorem dX11_scratchLine_44 : decode cX11_scratchLine 44 = .ok (.iconst 1, 1) := by decide +kernel
theorem dX11_scratchLine_45 : decode cX11_scratchLine 45 = .ok (.iadd, 1) := by decide +kernel
theorem dX11_scratchLine_46 : decode cX11_scratchLine 46 = .ok (.aload_n 0, 1) := by decide +kernel
theorem dX11_scratchLine_47 : decode cX11_scratchLine 47 = .ok (.aload_n 0, 1) := by decide +kernel
theorem dX11_scratchLine_48 : decode cX11_scratchLine 48 = .ok (.getfield 23, 3) := by decide +kernel
theorem dX11_scratchLine_51 : decode cX11_scratchLine 51 = .ok (.iload_n 1, 1) := by decide +kernel
theorem dX11_scratchLine_52 : decode cX11_scratchLine 52 = .ok (.iaload, 1) := by decide +kernel
theorem dX11_scratchLine_53 : decode cX11_scratchLine 53 = .ok (.invokevirtual 291, 3) := by decide +kernel
theorem dX11_scratchLine_56 : decode cX11_scratchLine 56 = .ok (.iastore, 1) := by decide +kernel
theorem dX11_scratchLine_57 : decode cX11_scratchLine 57 = .ok (.aload_n 0, 1) := by decide +kernel
theorem dX11_scratchLine_58 : decode cX11_scratchLine 58 = .ok (.getfield 121, 3) := by decide +kernel
theorem dX11_scratchLine_61 : decode cX11_scratchLine 61 = .ok (.ifCond .ne 14, 3) := by decide +kernel
theorem dX11_scratchLine_64 : decode cX11_scratchLine 64 = .ok (.aload_n 0, 1) := by decide +kernel
theorem dX11_scratchLine_65 : decode cX11_scratchLine 65 = .ok (.getfield 23, 3) := by decide +kernel
theorem dX11_scratchLine_68 : decode cX11_scratchLine 68 = .ok (.bipush 14, 2) := by decide +kernel
theorem dX11_scratchLine_70 : decode cX11_scratchLine 70 = .ok (.dup2, 1) := by decide +kernel
theorem dX11_scratchLine_71 : decode cX11_scratchLine 71 = .ok (.iaload, 1) := by decide +kernel
theorem dX11_scratchLine_72 : decode cX11_scratchLine 72 = .ok (.iconst 1, 1) := by decide +kernel
theorem dX11_scratchLine_73 : decode cX11_scratchLine 73 = .ok (.iadd, 1) := by decide +kernel
theorem dX11_scratchLine_74 : decode cX11_scratchLine 74 = .ok (.iastore, 1) := by decide +kernel
theorem dX11_scratchLine_75 : decode cX11_scratchLine 75 = .ok (.return_, 1) := by decide +kernel
set_option maxHeartbeats 4000000 in
set_option maxRecDepth 100000 in
theorem m_scratchLine (l : Launch) (g : Gx) (h0 : Nat) (m_thrown : Int32) (a_tape : Nat) (m_taped : Int32) (m_size : Int32) (m_at : Int32) (m_end : Int32) (m_token : Int32) (m_whole : Int32) (m_nameSize : Int32) (m_fault : Int32) (m_place : Int32) (m_trouble : Int32) (a_letters : Nat) (m_failed : Int32) (m_hasHouse : Int32) (a_r : Nat) (a_fresh : Nat) (a_st : Nat) (a_undone : Nat) (a_kept : Nat) (m_undos : Int32) (m_images : Int32) (a_from : Nat) (a_begin : Nat) (a_motor : Nat) (a_change : Nat) (a_startFrame : Nat) (a_changeFrame : Nat) (a_lostAt : Nat) (a_blackAt : Nat) (a_slips : Nat) (a_leftArc : Nat) (a_died : Nat) (a_arcs : Nat) (m_bestSum : Int32) (m_nearest : Int32) (m_nearestTown : Int32) (a_there : Nat) (a_backAt : Nat) (a_sorted : Nat) (a_parts : Nat) (m_seed1 : Int32) (m_darkNow : Int32) (d_tape : Nat → Int32) (d_letters : Nat → Int32) (d_fresh : Nat → Int32) (hv_m_size : IV m_size 0 900) (hv_m_end : IV m_end 0 900) (hv_m_nameSize : IV m_nameSize 0 900) (hv_m_failed : IV m_failed 0 1) (hp_d_fresh : RInv d_fresh) (hc_0 : m_failed = 1 ∨ ((d_fresh 14).toInt ≤ 5)) (hc_1 : m_token = 2 → IV m_nameSize 0 8) : cV l g yX11_scratchLine cX11_scratchLine 2 8 173 0 0 [.ref h0] [(h0, .inr (11, [.int m_thrown, .ref a_tape, .int m_taped, .int m_size, .int m_at, .int m_end, .int m_token, .int m_whole, .int m_nameSize, .int m_fault, .int m_place, .int m_trouble, .ref a_letters, .int m_failed, .int m_hasHouse, .ref a_r, .ref a_fresh, .ref a_st, .ref a_undone, .ref a_kept, .int m_undos, .int m_images, .ref a_from, .ref a_begin, .ref a_motor, .ref a_change, .ref a_startFrame, .ref a_changeFrame, .ref a_lostAt, .ref a_blackAt, .ref a_slips, .ref a_leftArc, .ref a_died, .ref a_arcs, .int m_bestSum, .int m_nearest, .int m_nearestTown, .ref a_there, .ref a_backAt, .ref a_sorted, .ref a_parts, .int m_seed1, .int m_darkNow])), (a_tape, .inl (g.2.2.1, 900, .inl d_tape)), (a_letters, .inl (g.2.2.1, 8, .inl d_letters)), (a_fresh, .inl (g.2.2.1, 311, .inl d_fresh))] (fun w => ∃ (m_at2 : Int32) (m_end2 : Int32) (m_failed2 : Int32) (m_fault2 : Int32) (d_fresh2 : Nat → Int32) (d_letters2 : Nat → Int32) (m_nameSize2 : Int32) (m_place2 : Int32) (m_token2 : Int32) (m_whole2 : Int32), IV m_end2 0 900 ∧ IV m_failed2 0 1 ∧ IV m_nameSize2 0 900 ∧ RInv d_fresh2 ∧ (m_end.toInt ≤ m_end2.toInt) ∧ (m_token2 = 2 → IV m_nameSize2 0 8) ∧ w = [(h0, .inr (11, [.int m_thrown, .ref a_tape, .int m_taped, .int m_size, .int m_at2, .int m_end2, .int m_token2, .int m_whole2, .int m_nameSize2, .int m_fault2, .int m_place2, .int m_trouble, .ref a_letters, .int m_failed2, .int m_hasHouse, .ref a_r, .ref a_fresh, .ref a_st, .ref a_undone, .ref a_kept, .int m_undos, .int m_images, .ref a_from, .ref a_begin, .ref a_motor, .ref a_change, .ref a_startFrame, .ref a_changeFrame, .ref a_lostAt, .ref a_blackAt, .ref a_slips, .ref a_leftArc, .ref a_died, .ref a_arcs, .int m_bestSum, .int m_nearest, .int m_nearestTown, .ref a_there, .ref a_backAt, .ref a_sorted, .ref a_parts, .int m_seed1, .int m_darkNow])), (a_tape, .inl (g.2.2.1, 900, .inl d_tape)), (a_letters, .inl (g.2.2.1, 8, .inl d_letters2)), (a_fresh, .inl (g.2.2.1, 311, .inl d_fresh2))]) := by
  refine cV.of (by decide) (Nat.le_of_ble_eq_true rfl) ?_
  intro p e s m args below meth c A X hr hi
  refine k_lveq [(0, .ref h0)] rfl ?_
  refine k_aload_n X dX11_scratchLine_0 0 rfl ?_
  refine k_get (ci := 11) X inlX11 rfl 13 (by decide) dX11_scratchLine_1 mw469 0 rfl rfl ?_
  refine k_if_eq 8 X dX11_scratchLine_4 (by decide) (fun h_1 => ?_) (fun h_1 => ?_)
  · skip
    have iv_2 : IV m_failed 0 0 := iv_meet hv_m_failed (iv_e h_1 (show IV 0 0 0 from (by decide))) (by decide) (by decide)
    have hc_3 := hc_0.resolve_left (fun q => iv_eqN q iv_2 (show IV 1 1 1 from (by decide)) (by decide))
    have j_4 : (d_fresh 14).toInt ≤ 5 := hc_3
    refine k_sipush (v := 155) X dX11_scratchLine_8 (by decide) ?_
    refine k_iconst (v := 2) X dX11_scratchLine_11 (by decide) ?_
    refine k_aload_n X dX11_scratchLine_12 0 rfl ?_
    refine k_get (ci := 11) X inlX11 rfl 16 (by decide) dX11_scratchLine_13 mw171 0 rfl rfl ?_
    refine k_bipush (v := 14) X dX11_scratchLine_16 (by decide) ?_
    refine k_iald X dX11_scratchLine_18 3 rfl (by unfold vp_in; decide) ?_
    refine k_nm (fun z_5 ez_5 => ?_)
    have i_6 : z_5.toInt = (d_fresh 14).toInt := by rw [ez_5]; rfl
    have iv_7 : IV z_5 0 5 := by have := rb_14 ez_5 hp_d_fresh; rw [IV]; omega
    refine k_imul X dX11_scratchLine_19 ?_
    refine k_nm (fun z_8 ez_8 => ?_)
    have i_9 : z_8.toInt = 2 * z_5.toInt := in_mul ez_8 (by decide) (by decide) iv_7 (by decide) (by decide)
    have iv_10 : IV z_8 0 10 := by have := (show IV 2 2 2 from (by decide)); have := iv_7; rw [IV, i_9]; omega
    refine k_iadd X dX11_scratchLine_20 ?_
    refine k_nm (fun z_11 ez_11 => ?_)
    have i_12 : z_11.toInt = 155 + z_8.toInt := in_add ez_11 (show IV 155 155 155 from (by decide)) iv_10 (by decide) (by decide)
    have iv_13 : IV z_11 155 165 := by have := (show IV 155 155 155 from (by decide)); have := iv_10; rw [IV, i_12]; omega
    refine k_istore_n [(1, .int z_11), (0, .ref h0)] X dX11_scratchLine_21 (by decide) rfl ?_
    refine k_aload_n X dX11_scratchLine_22 1 rfl ?_
    refine k_get (ci := 11) X inlX11 rfl 16 (by decide) dX11_scratchLine_23 mw171 0 rfl rfl ?_
    refine k_iload_n X dX11_scratchLine_26 0 rfl ?_
    refine k_aload_n X dX11_scratchLine_27 1 rfl ?_
    refine k_callVI (n := 0) (As := []) (st := [.int z_11, .ref a_fresh]) X [(h0, .inr (11, [.int m_thrown, .ref a_tape, .int m_taped, .int m_size, .int m_at, .int m_end, .int m_token, .int m_whole, .int m_nameSize, .int m_fault, .int m_place, .int m_trouble, .ref a_letters, .int m_failed, .int m_hasHouse, .ref a_r, .ref a_fresh, .ref a_st, .ref a_undone, .ref a_kept, .int m_undos, .int m_images, .ref a_from, .ref a_begin, .ref a_motor, .ref a_change, .ref a_startFrame, .ref a_changeFrame, .ref a_lostAt, .ref a_blackAt, .ref a_slips, .ref a_leftArc, .ref a_died, .ref a_arcs, .int m_bestSum, .int m_nearest, .int m_nearestTown, .ref a_there, .ref a_backAt, .ref a_sorted, .ref a_parts, .int m_seed1, .int m_darkNow])), (a_tape, .inl (g.2.2.1, 900, .inl d_tape)), (a_letters, .inl (g.2.2.1, 8, .inl d_letters)), (a_fresh, .inl (g.2.2.1, 311, .inl d_fresh))] [] [0, 1, 2, 3] [] (m_reelPassed l g h0 m_thrown a_tape m_taped m_size m_at m_end m_token m_whole m_nameSize m_fault m_place m_trouble a_letters m_failed m_hasHouse a_r a_fresh a_st a_undone a_kept m_undos m_images a_from a_begin a_motor a_change a_startFrame a_changeFrame a_lostAt a_blackAt a_slips a_leftArc a_died a_arcs m_bestSum m_nearest m_nearestTown a_there a_backAt a_sorted a_parts m_seed1 m_darkNow d_tape d_letters d_fresh (iv_w hv_m_size (by decide) (by decide)) (iv_w hv_m_end (by decide) (by decide)) (iv_w hv_m_nameSize (by decide) (by decide)) (iv_w iv_2 (by decide) (by decide)) hp_d_fresh hc_1) dX11_scratchLine_28 mw571 mw572 mw573 mw5 mw574 rfl 11 rfl rfl 0 _ rfl (by unfold yOk; decide) rfl (Nat.le_of_ble_eq_true rfl) (Nat.le_of_ble_eq_true rfl) (Nat.le_of_ble_eq_true rfl) (Nat.le_of_ble_eq_true rfl) (Nat.le_of_ble_eq_true rfl) rfl rfl (by decide) rfl (by decide) (by decide) ?_
    rintro r_23 w ⟨m_at2_14, m_end2_15, m_failed2_16, m_fault2_17, d_letters2_18, m_nameSize2_19, m_place2_20, m_token2_21, m_whole2_22, iv_24, iv_25, iv_26, iv_27, hq_28, hk_29, rfl⟩
    refine k_ws [(h0, .inr (11, [.int m_thrown, .ref a_tape, .int m_taped, .int m_size, .int m_at2_14, .int m_end2_15, .int m_token2_21, .int m_whole2_22, .int m_nameSize2_19, .int m_fault2_17, .int m_place2_20, .int m_trouble, .ref a_letters, .int m_failed2_16, .int m_hasHouse, .ref a_r, .ref a_fresh, .ref a_st, .ref a_undone, .ref a_kept, .int m_undos, .int m_images, .ref a_from, .ref a_begin, .ref a_motor, .ref a_change, .ref a_startFrame, .ref a_changeFrame, .ref a_lostAt, .ref a_blackAt, .ref a_slips, .ref a_leftArc, .ref a_died, .ref a_arcs, .int m_bestSum, .int m_nearest, .int m_nearestTown, .ref a_there, .ref a_backAt, .ref a_sorted, .ref a_parts, .int m_seed1, .int m_darkNow])), (a_tape, .inl (g.2.2.1, 900, .inl d_tape)), (a_letters, .inl (g.2.2.1, 8, .inl d_letters2_18)), (a_fresh, .inl (g.2.2.1, 311, .inl d_fresh))] rfl ?_
    refine k_iast [(h0, .inr (11, [.int m_thrown, .ref a_tape, .int m_taped, .int m_size, .int m_at2_14, .int m_end2_15, .int m_token2_21, .int m_whole2_22, .int m_nameSize2_19, .int m_fault2_17, .int m_place2_20, .int m_trouble, .ref a_letters, .int m_failed2_16, .int m_hasHouse, .ref a_r, .ref a_fresh, .ref a_st, .ref a_undone, .ref a_kept, .int m_undos, .int m_images, .ref a_from, .ref a_begin, .ref a_motor, .ref a_change, .ref a_startFrame, .ref a_changeFrame, .ref a_lostAt, .ref a_blackAt, .ref a_slips, .ref a_leftArc, .ref a_died, .ref a_arcs, .int m_bestSum, .int m_nearest, .int m_nearestTown, .ref a_there, .ref a_backAt, .ref a_sorted, .ref a_parts, .int m_seed1, .int m_darkNow])), (a_tape, .inl (g.2.2.1, 900, .inl d_tape)), (a_letters, .inl (g.2.2.1, 8, .inl d_letters2_18)), (a_fresh, .inl (g.2.2.1, 311, .inl (upd d_fresh (z_11 : Int32).toNatClampNeg r_23)))] X dX11_scratchLine_31 3 rfl (iv_in iv_13 (by decide) (by decide)) rfl ?_
    have i_32 : z_11.toInt = 155 + 2 * z_5.toInt := by omega
    refine (fun hg : ∀ fa_30 : Nat → Int32, RInv fa_30 → K16 d_fresh fa_30 → Wk p l e _ s m args below meth c _ A g _ _ _ [(h0, .inr (11, [.int m_thrown, .ref a_tape, .int m_taped, .int m_size, .int m_at2_14, .int m_end2_15, .int m_token2_21, .int m_whole2_22, .int m_nameSize2_19, .int m_fault2_17, .int m_place2_20, .int m_trouble, .ref a_letters, .int m_failed2_16, .int m_hasHouse, .ref a_r, .ref a_fresh, .ref a_st, .ref a_undone, .ref a_kept, .int m_undos, .int m_images, .ref a_from, .ref a_begin, .ref a_motor, .ref a_change, .ref a_startFrame, .ref a_changeFrame, .ref a_lostAt, .ref a_blackAt, .ref a_slips, .ref a_leftArc, .ref a_died, .ref a_arcs, .int m_bestSum, .int m_nearest, .int m_nearestTown, .ref a_there, .ref a_backAt, .ref a_sorted, .ref a_parts, .int m_seed1, .int m_darkNow])), (a_tape, .inl (g.2.2.1, 900, .inl d_tape)), (a_letters, .inl (g.2.2.1, 8, .inl d_letters2_18)), (a_fresh, .inl (g.2.2.1, 311, .inl fa_30))] _ _ _ => hg _ (w_rb_155_2 hp_d_fresh i_32 (iv_w iv_7 (by decide) (by decide)) (iv_w iv_27 (by decide) (by decide))) (k16_u (by have := iv_13; omega))) (fun fa_30 hR_31 hk_33 => ?_)
    have ek_34 : z_5 = fa_30 (14 : Int32).toNatClampNeg := ez_5.trans (hk_33 _ (by decide)).symm
    refine k_aload_n X dX11_scratchLine_32 1 rfl ?_
    refine k_get (ci := 11) X inlX11 rfl 13 (by decide) dX11_scratchLine_33 mw469 0 rfl rfl ?_
    refine k_if_ne 57 X dX11_scratchLine_36 (by decide) (fun h_35 => ?_) (fun h_35 => ?_)
    · skip
      have iv_36 : IV m_failed2_16 1 1 := iv_neL h_35 iv_25 (show IV 0 0 0 from (by decide)) (by decide)
      refine k_aload_n X dX11_scratchLine_57 1 rfl ?_
      refine k_get (ci := 11) X inlX11 rfl 13 (by decide) dX11_scratchLine_58 mw469 0 rfl rfl ?_
      refine k_if_ne 75 X dX11_scratchLine_61 (by decide) (fun h_37 => ?_) (fun h_37 => (iv_eqN h_37 iv_36 (show IV 0 0 0 from (by decide)) (by decide)).elim)
      exact k_vret X hr dX11_scratchLine_75 (Nat.le_of_ble_eq_true rfl) (Nat.le_of_ble_eq_true rfl) [0, 1, 2, 3] (by decide) rfl rfl ⟨m_at2_14, m_end2_15, m_failed2_16, m_fault2_17, fa_30, d_letters2_18, m_nameSize2_19, m_place2_20, m_token2_21, m_whole2_22, (iv_w iv_24 (by decide) (by decide)), (iv_w iv_36 (by decide) (by decide)), (iv_w iv_26 (by decide) (by decide)), hR_31, (by omega), hk_29, rfl⟩
    · skip
      have iv_38 : IV m_failed2_16 0 0 := iv_meet iv_25 (iv_e h_35 (show IV 0 0 0 from (by decide))) (by decide) (by decide)
      refine k_aload_n X dX11_scratchLine_39 1 rfl ?_
      refine k_get (ci := 11) X inlX11 rfl 16 (by decide) dX11_scratchLine_40 mw171 0 rfl rfl ?_
      refine k_iload_n X dX11_scratchLine_43 0 rfl ?_
      refine k_iconst (v := 1) X dX11_scratchLine_44 (by decide) ?_
      refine k_iadd X dX11_scratchLine_45 ?_
      refine k_nm (fun z_39 ez_39 => ?_)
      have i_40 : z_39.toInt = z_11.toInt + 1 := in_add ez_39 iv_13 (show IV 1 1 1 from (by decide)) (by decide) (by decide)
      have iv_41 : IV z_39 156 166 := by have := iv_13; have := (show IV 1 1 1 from (by decide)); rw [IV, i_40]; omega
      refine k_aload_n X dX11_scratchLine_46 1 rfl ?_
      refine k_aload_n X dX11_scratchLine_47 1 rfl ?_
      refine k_get (ci := 11) X inlX11 rfl 16 (by decide) dX11_scratchLine_48 mw171 0 rfl rfl ?_
      refine k_iload_n X dX11_scratchLine_51 0 rfl ?_
      refine k_iald X dX11_scratchLine_52 3 rfl (iv_in iv_13 (by decide) (by decide)) ?_
      refine k_nm (fun z_42 ez_42 => ?_)
      have i_43 : z_11.toInt = 155 + 2 * z_5.toInt := by omega
      have iv_44 : IV z_42 0 7 := rb_155_2 ez_42 hR_31 i_43 (iv_w iv_7 (by decide) (by decide))
      refine k_callVI (n := 1) (As := [.int z_42]) (st := [.int z_39, .ref a_fresh]) X [(h0, .inr (11, [.int m_thrown, .ref a_tape, .int m_taped, .int m_size, .int m_at2_14, .int m_end2_15, .int m_token2_21, .int m_whole2_22, .int m_nameSize2_19, .int m_fault2_17, .int m_place2_20, .int m_trouble, .ref a_letters, .int m_failed2_16, .int m_hasHouse, .ref a_r, .ref a_fresh, .ref a_st, .ref a_undone, .ref a_kept, .int m_undos, .int m_images, .ref a_from, .ref a_begin, .ref a_motor, .ref a_change, .ref a_startFrame, .ref a_changeFrame, .ref a_lostAt, .ref a_blackAt, .ref a_slips, .ref a_leftArc, .ref a_died, .ref a_arcs, .int m_bestSum, .int m_nearest, .int m_nearestTown, .ref a_there, .ref a_backAt, .ref a_sorted, .ref a_parts, .int m_seed1, .int m_darkNow])), (a_tape, .inl (g.2.2.1, 900, .inl d_tape)), (a_letters, .inl (g.2.2.1, 8, .inl d_letters2_18)), (a_fresh, .inl (g.2.2.1, 311, .inl fa_30))] [] [0, 1, 2, 3] [] (m_frameOf l g h0 z_42 m_thrown a_tape m_taped m_size m_at2_14 m_end2_15 m_token2_21 m_whole2_22 m_nameSize2_19 m_fault2_17 m_place2_20 m_trouble a_letters m_failed2_16 m_hasHouse a_r a_fresh a_st a_undone a_kept m_undos m_images a_from a_begin a_motor a_change a_startFrame a_changeFrame a_lostAt a_blackAt a_slips a_leftArc a_died a_arcs m_bestSum m_nearest m_nearestTown a_there a_backAt a_sorted a_parts m_seed1 m_darkNow d_tape d_letters2_18 fa_30 (iv_w iv_44 (by decide) (by decide)) (iv_w hv_m_size (by decide) (by decide)) (iv_w iv_24 (by decide) (by decide)) (iv_w iv_26 (by decide) (by decide)) (iv_w iv_38 (by decide) (by decide)) hR_31 hk_29) dX11_scratchLine_53 mw579 mw580 mw581 mw5 mw582 rfl 11 rfl rfl 0 _ rfl (by unfold yOk; decide) rfl (Nat.le_of_ble_eq_true rfl) (Nat.le_of_ble_eq_true rfl) (Nat.le_of_ble_eq_true rfl) (Nat.le_of_ble_eq_true rfl) (Nat.le_of_ble_eq_true rfl) rfl rfl (by decide) rfl (by decide) (by decide) ?_
      rintro r_54 w ⟨m_at2_45, m_end2_46, m_failed2_47, m_fault2_48, d_letters2_49, m_nameSize2_50, m_place2_51, m_token2_52, m_whole2_53, iv_55, iv_56, iv_57, hq_58, hk_59, rfl⟩
      refine k_ws [(h0, .inr (11, [.int m_thrown, .ref a_tape, .int m_taped, .int m_size, .int m_at2_45, .int m_end2_46, .int m_token2_52, .int m_whole2_53, .int m_nameSize2_50, .int m_fault2_48, .int m_place2_51, .int m_trouble, .ref a_letters, .int m_failed2_47, .int m_hasHouse, .ref a_r, .ref a_fresh, .ref a_st, .ref a_undone, .ref a_kept, .int m_undos, .int m_images, .ref a_from, .ref a_begin, .ref a_motor, .ref a_change, .ref a_startFrame, .ref a_changeFrame, .ref a_lostAt, .ref a_blackAt, .ref a_slips, .ref a_leftArc, .ref a_died, .ref a_arcs, .int m_bestSum, .int m_nearest, .int m_nearestTown, .ref a_there, .ref a_backAt, .ref a_sorted, .ref a_parts, .int m_seed1, .int m_darkNow])), (a_tape, .inl (g.2.2.1, 900, .inl d_tape)), (a_letters, .inl (g.2.2.1, 8, .inl d_letters2_49)), (a_fresh, .inl (g.2.2.1, 311, .inl fa_30))] rfl ?_
      refine k_iast [(h0, .inr (11, [.int m_thrown, .ref a_tape, .int m_taped, .int m_size, .int m_at2_45, .int m_end2_46, .int m_token2_52, .int m_whole2_53, .int m_nameSize2_50, .int m_fault2_48, .int m_place2_51, .int m_trouble, .ref a_letters, .int m_failed2_47, .int m_hasHouse, .ref a_r, .ref a_fresh, .ref a_st, .ref a_undone, .ref a_kept, .int m_undos, .int m_images, .ref a_from, .ref a_begin, .ref a_motor, .ref a_change, .ref a_startFrame, .ref a_changeFrame, .ref a_lostAt, .ref a_blackAt, .ref a_slips, .ref a_leftArc, .ref a_died, .ref a_arcs, .int m_bestSum, .int m_nearest, .int m_nearestTown, .ref a_there, .ref a_backAt, .ref a_sorted, .ref a_parts, .int m_seed1, .int m_darkNow])), (a_tape, .inl (g.2.2.1, 900, .inl d_tape)), (a_letters, .inl (g.2.2.1, 8, .inl d_letters2_49)), (a_fresh, .inl (g.2.2.1, 311, .inl (upd fa_30 (z_39 : Int32).toNatClampNeg r_54)))] X dX11_scratchLine_56 3 rfl (iv_in iv_41 (by decide) (by decide)) rfl ?_
      have i_62 : z_39.toInt = 156 + 2 * z_5.toInt := by omega
      refine (fun hg : ∀ fa_60 : Nat → Int32, RInv fa_60 → K16 fa_30 fa_60 → Wk p l e _ s m args below meth c _ A g _ _ _ [(h0, .inr (11, [.int m_thrown, .ref a_tape, .int m_taped, .int m_size, .int m_at2_45, .int m_end2_46, .int m_token2_52, .int m_whole2_53, .int m_nameSize2_50, .int m_fault2_48, .int m_place2_51, .int m_trouble, .ref a_letters, .int m_failed2_47, .int m_hasHouse, .ref a_r, .ref a_fresh, .ref a_st, .ref a_undone, .ref a_kept, .int m_undos, .int m_images, .ref a_from, .ref a_begin, .ref a_motor, .ref a_change, .ref a_startFrame, .ref a_changeFrame, .ref a_lostAt, .ref a_blackAt, .ref a_slips, .ref a_leftArc, .ref a_died, .ref a_arcs, .int m_bestSum, .int m_nearest, .int m_nearestTown, .ref a_there, .ref a_backAt, .ref a_sorted, .ref a_parts, .int m_seed1, .int m_darkNow])), (a_tape, .inl (g.2.2.1, 900, .inl d_tape)), (a_letters, .inl (g.2.2.1, 8, .inl d_letters2_49)), (a_fresh, .inl (g.2.2.1, 311, .inl fa_60))] _ _ _ => hg _ (w_fr_156_2 hR_31 i_62 (iv_w iv_7 (by decide) (by decide))) (k16_u (by have := iv_41; omega))) (fun fa_60 hR_61 hk_63 => ?_)
      have ek_64 : z_5 = fa_60 (14 : Int32).toNatClampNeg := ek_34.trans (hk_63 _ (by decide)).symm
      refine k_aload_n X dX11_scratchLine_57 1 rfl ?_
      refine k_get (ci := 11) X inlX11 rfl 13 (by decide) dX11_scratchLine_58 mw469 0 rfl rfl ?_
      refine k_if_ne 75 X dX11_scratchLine_61 (by decide) (fun h_65 => ?_) (fun h_65 => ?_)
      · skip
        have iv_66 : IV m_failed2_47 1 1 := iv_neL h_65 iv_56 (show IV 0 0 0 from (by decide)) (by decide)
        exact k_vret X hr dX11_scratchLine_75 (Nat.le_of_ble_eq_true rfl) (Nat.le_of_ble_eq_true rfl) [0, 1, 2, 3] (by decide) rfl rfl ⟨m_at2_45, m_end2_46, m_failed2_47, m_fault2_48, fa_60, d_letters2_49, m_nameSize2_50, m_place2_51, m_token2_52, m_whole2_53, (iv_w iv_55 (by decide) (by decide)), (iv_w iv_66 (by decide) (by decide)), (iv_w iv_57 (by decide) (by decide)), hR_61, (by omega), hk_59, rfl⟩
      · skip
        have iv_67 : IV m_failed2_47 0 0 := iv_meet iv_56 (iv_e h_65 (show IV 0 0 0 from (by decide))) (by decide) (by decide)
        refine k_aload_n X dX11_scratchLine_64 1 rfl ?_
        refine k_get (ci := 11) X inlX11 rfl 16 (by decide) dX11_scratchLine_65 mw171 0 rfl rfl ?_
        refine k_bipush (v := 14) X dX11_scratchLine_68 (by decide) ?_
        refine k_dup2 X dX11_scratchLine_70 rfl rfl ?_
        refine k_iald X dX11_scratchLine_71 3 rfl (by unfold vp_in; decide) ?_
        refine k_to z_5 ek_64.symm ?_
        refine k_iconst (v := 1) X dX11_scratchLine_72 (by decide) ?_
        refine k_iadd X dX11_scratchLine_73 ?_
        refine k_nm (fun z_68 ez_68 => ?_)
        have i_69 : z_68.toInt = z_5.toInt + 1 := in_add ez_68 iv_7 (show IV 1 1 1 from (by decide)) (by decide) (by decide)
        have iv_70 : IV z_68 1 6 := by have := iv_7; have := (show IV 1 1 1 from (by decide)); rw [IV, i_69]; omega
        refine k_iast [(h0, .inr (11, [.int m_thrown, .ref a_tape, .int m_taped, .int m_size, .int m_at2_45, .int m_end2_46, .int m_token2_52, .int m_whole2_53, .int m_nameSize2_50, .int m_fault2_48, .int m_place2_51, .int m_trouble, .ref a_letters, .int m_failed2_47, .int m_hasHouse, .ref a_r, .ref a_fresh, .ref a_st, .ref a_undone, .ref a_kept, .int m_undos, .int m_images, .ref a_from, .ref a_begin, .ref a_motor, .ref a_change, .ref a_startFrame, .ref a_changeFrame, .ref a_lostAt, .ref a_blackAt, .ref a_slips, .ref a_leftArc, .ref a_died, .ref a_arcs, .int m_bestSum, .int m_nearest, .int m_nearestTown, .ref a_there, .ref a_backAt, .ref a_sorted, .ref a_parts, .int m_seed1, .int m_darkNow])), (a_tape, .inl (g.2.2.1, 900, .inl d_tape)), (a_letters, .inl (g.2.2.1, 8, .inl d_letters2_49)), (a_fresh, .inl (g.2.2.1, 311, .inl (upd fa_60 (14 : Int32).toNatClampNeg z_68)))] X dX11_scratchLine_74 3 rfl (by unfold vp_in; decide) rfl ?_
        refine (fun hg : ∀ fa_71 : Nat → Int32, RInv fa_71 → Wk p l e _ s m args below meth c _ A g _ _ _ [(h0, .inr (11, [.int m_thrown, .ref a_tape, .int m_taped, .int m_size, .int m_at2_45, .int m_end2_46, .int m_token2_52, .int m_whole2_53, .int m_nameSize2_50, .int m_fault2_48, .int m_place2_51, .int m_trouble, .ref a_letters, .int m_failed2_47, .int m_hasHouse, .ref a_r, .ref a_fresh, .ref a_st, .ref a_undone, .ref a_kept, .int m_undos, .int m_images, .ref a_from, .ref a_begin, .ref a_motor, .ref a_change, .ref a_startFrame, .ref a_changeFrame, .ref a_lostAt, .ref a_blackAt, .ref a_slips, .ref a_leftArc, .ref a_died, .ref a_arcs, .int m_bestSum, .int m_nearest, .int m_nearestTown, .ref a_there, .ref a_backAt, .ref a_sorted, .ref a_parts, .int m_seed1, .int m_darkNow])), (a_tape, .inl (g.2.2.1, 900, .inl d_tape)), (a_letters, .inl (g.2.2.1, 8, .inl d_letters2_49)), (a_fresh, .inl (g.2.2.1, 311, .inl fa_71))] _ _ _ => hg _ (w_rb_14 hR_61 (iv_w iv_70 (by decide) (by decide)))) (fun fa_71 hR_72 => ?_)
        exact k_vret X hr dX11_scratchLine_75 (Nat.le_of_ble_eq_true rfl) (Nat.le_of_ble_eq_true rfl) [0, 1, 2, 3] (by decide) rfl rfl ⟨m_at2_45, m_end2_46, m_failed2_47, m_fault2_48, fa_71, d_letters2_49, m_nameSize2_50, m_place2_51, m_token2_52, m_whole2_53, (iv_w iv_55 (by decide) (by decide)), (iv_w iv_67 (by decide) (by decide)), (iv_w iv_57 (by decide) (by decide)), hR_72, (by omega), hk_59, rfl⟩
  · skip
    have iv_74 : IV m_failed 1 1 := iv_neL h_1 hv_m_failed (show IV 0 0 0 from (by decide)) (by decide)
    exact k_vret X hr dX11_scratchLine_7 (Nat.le_of_ble_eq_true rfl) (Nat.le_of_ble_eq_true rfl) [0, 1, 2, 3] (by decide) rfl rfl ⟨m_at, m_end, m_failed, m_fault, d_fresh, d_letters, m_nameSize, m_place, m_token, m_whole, (iv_w hv_m_end (by decide) (by decide)), (iv_w iv_74 (by decide) (by decide)), (iv_w hv_m_nameSize (by decide) (by decide)), hp_d_fresh, (by omega), hc_1, rfl⟩
