theorem dX11_length_0 : decode cX11_length 0 = .ok (.aload_n 0, 1) := dk_42 rfl
theorem dX11_length_1 : decode cX11_length 1 = .ok (.invokevirtual 200, 3) := dk_182 rfl rfl rfl rfl
theorem dX11_length_4 : decode cX11_length 4 = .ok (.aload_n 0, 1) := dk_42 rfl
theorem dX11_length_5 : decode cX11_length 5 = .ok (.iload_n 1, 1) := dk_27 rfl
theorem dX11_length_6 : decode cX11_length 6 = .ok (.iconst 0, 1) := dk_3 rfl
theorem dX11_length_7 : decode cX11_length 7 = .ok (.invokevirtual 376, 3) := dk_182 rfl rfl rfl rfl
theorem dX11_length_10 : decode cX11_length 10 = .ok (.ifCond .eq 20, 3) := dk_153 rfl rfl rfl (by decide)
theorem dX11_length_13 : decode cX11_length 13 = .ok (.aload_n 0, 1) := dk_42 rfl
theorem dX11_length_14 : decode cX11_length 14 = .ok (.getfield 44, 3) := dk_180 rfl rfl rfl rfl
theorem dX11_length_17 : decode cX11_length 17 = .ok (.aload_n 0, 1) := dk_42 rfl
theorem dX11_length_18 : decode cX11_length 18 = .ok (.getfield 20, 3) := dk_180 rfl rfl rfl rfl
theorem dX11_length_21 : decode cX11_length 21 = .ok (.bipush 12, 2) := dk_16 rfl rfl (by decide)
theorem dX11_length_23 : decode cX11_length 23 = .ok (.iaload, 1) := dk_46 rfl
theorem dX11_length_24 : decode cX11_length 24 = .ok (.iconst 1, 1) := dk_4 rfl
theorem dX11_length_25 : decode cX11_length 25 = .ok (.isub, 1) := dk_100 rfl
theorem dX11_length_26 : decode cX11_length 26 = .ok (.iaload, 1) := dk_46 rfl
theorem dX11_length_27 : decode cX11_length 27 = .ok (.goto 8, 3) := dk_167 rfl rfl rfl (by decide)
theorem dX11_length_30 : decode cX11_length 30 = .ok (.aload_n 0, 1) := dk_42 rfl
theorem dX11_length_31 : decode cX11_length 31 = .ok (.iconst 1, 1) := dk_4 rfl
theorem dX11_length_32 : decode cX11_length 32 = .ok (.invokevirtual 203, 3) := dk_182 rfl rfl rfl rfl
theorem dX11_length_35 : decode cX11_length 35 = .ok (.ireturn, 1) := dk_172 rfl
set_option maxHeartbeats 4000000 in
set_option maxRecDepth 100000 in
theorem m_length (l : Launch) (g : Gx) (h0 : Nat) (p0 : Int32) (m_thrown : Int32) (a_tape : Nat) (m_taped : Int32) (m_size : Int32) (m_at : Int32) (m_end : Int32) (m_token : Int32) (m_whole : Int32) (m_nameSize : Int32) (m_fault : Int32) (m_place : Int32) (m_trouble : Int32) (a_letters : Nat) (m_failed : Int32) (m_hasHouse : Int32) (a_r : Nat) (a_fresh : Nat) (a_st : Nat) (a_undone : Nat) (a_kept : Nat) (m_undos : Int32) (m_images : Int32) (a_from : Nat) (a_begin : Nat) (a_motor : Nat) (a_change : Nat) (a_startFrame : Nat) (a_changeFrame : Nat) (a_lostAt : Nat) (a_blackAt : Nat) (a_slips : Nat) (a_leftArc : Nat) (a_died : Nat) (a_arcs : Nat) (m_bestSum : Int32) (m_nearest : Int32) (m_nearestTown : Int32) (a_there : Nat) (a_backAt : Nat) (a_sorted : Nat) (a_parts : Nat) (m_seed1 : Int32) (m_darkNow : Int32) (d_r : Nat → Int32) (d_st : Nat → Int32) (d_from : Nat → Int32) (d_begin : Nat → Int32) (d_motor : Nat → Int32) (d_change : Nat → Int32) (d_startFrame : Nat → Int32) (d_changeFrame : Nat → Int32) (d_lostAt : Nat → Int32) (d_blackAt : Nat → Int32) (d_slips : Nat → Int32) (hv_m_hasHouse : IV m_hasHouse 0 1) (hp_d_r : RInv d_r) : cI l g yX11_length cX11_length 2 (some .int) 6 132 0 0 [.ref h0, .int p0] [(cO11_i1r1i10r1i2r5i2r12i3r4i2 h0 m_thrown a_tape m_taped m_size m_at m_end m_token m_whole m_nameSize m_fault m_place m_trouble a_letters m_failed m_hasHouse a_r a_fresh a_st a_undone a_kept m_undos m_images a_from a_begin a_motor a_change a_startFrame a_changeFrame a_lostAt a_blackAt a_slips a_leftArc a_died a_arcs m_bestSum m_nearest m_nearestTown a_there a_backAt a_sorted a_parts m_seed1 m_darkNow), (cAI g a_r 311 d_r), (cAI g a_st 44 d_st), (cAI g a_from 8 d_from), (cAI g a_begin 8 d_begin), (cAI g a_motor 8 d_motor), (cAI g a_change 8 d_change), (cAI g a_startFrame 8 d_startFrame), (cAI g a_changeFrame 8 d_changeFrame), (cAI g a_lostAt 8 d_lostAt), (cAI g a_blackAt 8 d_blackAt), (cAI g a_slips 8 d_slips)] (fun r w => ∃ (d_begin2 : Nat → Int32) (d_blackAt2 : Nat → Int32) (d_change2 : Nat → Int32) (d_changeFrame2 : Nat → Int32) (d_from2 : Nat → Int32) (d_lostAt2 : Nat → Int32) (d_motor2 : Nat → Int32) (d_slips2 : Nat → Int32) (d_startFrame2 : Nat → Int32) (m_thrown2 : Int32) (m_trouble2 : Int32), w = [(cO11_i1r1i10r1i2r5i2r12i3r4i2 h0 m_thrown2 a_tape m_taped m_size m_at m_end m_token m_whole m_nameSize m_fault m_place m_trouble2 a_letters m_failed m_hasHouse a_r a_fresh a_st a_undone a_kept m_undos m_images a_from a_begin a_motor a_change a_startFrame a_changeFrame a_lostAt a_blackAt a_slips a_leftArc a_died a_arcs m_bestSum m_nearest m_nearestTown a_there a_backAt a_sorted a_parts m_seed1 m_darkNow), (cAI g a_r 311 d_r), (cAI g a_st 44 d_st), (cAI g a_from 8 d_from2), (cAI g a_begin 8 d_begin2), (cAI g a_motor 8 d_motor2), (cAI g a_change 8 d_change2), (cAI g a_startFrame 8 d_startFrame2), (cAI g a_changeFrame 8 d_changeFrame2), (cAI g a_lostAt 8 d_lostAt2), (cAI g a_blackAt 8 d_blackAt2), (cAI g a_slips 8 d_slips2)]) := by
  refine cI.of (by decide) (Nat.le_of_ble_eq_true rfl) ?_
  intro p e s m args below meth c A X hr hi
  refine k_lveq [(0, .ref h0), (1, .int p0)] rfl ?_
  refine k_aload_n X dX11_length_0 0 rfl ?_
  refine k_callVV (n := 0) (As := []) (st := []) X [(cO11_i1r1i10r1i2r5i2r12i3r4i2 h0 m_thrown a_tape m_taped m_size m_at m_end m_token m_whole m_nameSize m_fault m_place m_trouble a_letters m_failed m_hasHouse a_r a_fresh a_st a_undone a_kept m_undos m_images a_from a_begin a_motor a_change a_startFrame a_changeFrame a_lostAt a_blackAt a_slips a_leftArc a_died a_arcs m_bestSum m_nearest m_nearestTown a_there a_backAt a_sorted a_parts m_seed1 m_darkNow)] [(cAI g a_r 311 d_r), (cAI g a_st 44 d_st), (cAI g a_from 8 d_from), (cAI g a_begin 8 d_begin), (cAI g a_motor 8 d_motor), (cAI g a_change 8 d_change), (cAI g a_startFrame 8 d_startFrame), (cAI g a_changeFrame 8 d_changeFrame), (cAI g a_lostAt 8 d_lostAt), (cAI g a_blackAt 8 d_blackAt), (cAI g a_slips 8 d_slips)] [0] [1, 2, 3, 4, 5, 6, 7, 8, 9, 10, 11] (m_good l g h0 m_thrown a_tape m_taped m_size m_at m_end m_token m_whole m_nameSize m_fault m_place m_trouble a_letters m_failed m_hasHouse a_r a_fresh a_st a_undone a_kept m_undos m_images a_from a_begin a_motor a_change a_startFrame a_changeFrame a_lostAt a_blackAt a_slips a_leftArc a_died a_arcs m_bestSum m_nearest m_nearestTown a_there a_backAt a_sorted a_parts m_seed1 m_darkNow) dX11_length_1 mw477 mw478 mw479 mw5 mw480 rfl 11 rfl rfl 0 _ rfl yk_yX11_good_0 rfl (Nat.le_of_ble_eq_true rfl) (Nat.le_of_ble_eq_true rfl) (Nat.le_of_ble_eq_true rfl) (Nat.le_of_ble_eq_true rfl) (Nat.le_of_ble_eq_true rfl) rfl rfl (by decide +kernel) rfl (by decide +kernel) (by decide +kernel) ?_
  rintro w ⟨m_thrown2_1, m_trouble2_2, rfl⟩
  refine k_ws [(cAI g a_r 311 d_r), (cAI g a_st 44 d_st), (cAI g a_from 8 d_from), (cAI g a_begin 8 d_begin), (cAI g a_motor 8 d_motor), (cAI g a_change 8 d_change), (cAI g a_startFrame 8 d_startFrame), (cAI g a_changeFrame 8 d_changeFrame), (cAI g a_lostAt 8 d_lostAt), (cAI g a_blackAt 8 d_blackAt), (cAI g a_slips 8 d_slips), (cO11_i1r1i10r1i2r5i2r12i3r4i2 h0 m_thrown2_1 a_tape m_taped m_size m_at m_end m_token m_whole m_nameSize m_fault m_place m_trouble2_2 a_letters m_failed m_hasHouse a_r a_fresh a_st a_undone a_kept m_undos m_images a_from a_begin a_motor a_change a_startFrame a_changeFrame a_lostAt a_blackAt a_slips a_leftArc a_died a_arcs m_bestSum m_nearest m_nearestTown a_there a_backAt a_sorted a_parts m_seed1 m_darkNow)] rfl ?_
  refine k_aload_n X dX11_length_4 0 rfl ?_
  refine k_iload_n X dX11_length_5 1 rfl ?_
  refine k_iconst (v := 0) X dX11_length_6 (by decide) ?_
  refine k_callVI (n := 2) (As := [.int p0, .int 0]) (st := []) X [(cO11_i1r1i10r1i2r5i2r12i3r4i2 h0 m_thrown2_1 a_tape m_taped m_size m_at m_end m_token m_whole m_nameSize m_fault m_place m_trouble2_2 a_letters m_failed m_hasHouse a_r a_fresh a_st a_undone a_kept m_undos m_images a_from a_begin a_motor a_change a_startFrame a_changeFrame a_lostAt a_blackAt a_slips a_leftArc a_died a_arcs m_bestSum m_nearest m_nearestTown a_there a_backAt a_sorted a_parts m_seed1 m_darkNow), (cAI g a_r 311 d_r), (cAI g a_st 44 d_st), (cAI g a_from 8 d_from), (cAI g a_begin 8 d_begin), (cAI g a_motor 8 d_motor), (cAI g a_change 8 d_change), (cAI g a_startFrame 8 d_startFrame), (cAI g a_changeFrame 8 d_changeFrame), (cAI g a_lostAt 8 d_lostAt), (cAI g a_blackAt 8 d_blackAt), (cAI g a_slips 8 d_slips)] [] [11, 0, 1, 2, 3, 4, 5, 6, 7, 8, 9, 10] [] (m_canTell l g h0 p0 0 m_thrown2_1 a_tape m_taped m_size m_at m_end m_token m_whole m_nameSize m_fault m_place m_trouble2_2 a_letters m_failed m_hasHouse a_r a_fresh a_st a_undone a_kept m_undos m_images a_from a_begin a_motor a_change a_startFrame a_changeFrame a_lostAt a_blackAt a_slips a_leftArc a_died a_arcs m_bestSum m_nearest m_nearestTown a_there a_backAt a_sorted a_parts m_seed1 m_darkNow d_r d_st d_from d_begin d_motor d_change d_startFrame d_changeFrame d_lostAt d_blackAt d_slips (iv_w hv_m_hasHouse (by decide) (by decide)) hp_d_r) dX11_length_7 mw807 mw808 mw809 mw5 mw810 rfl 11 rfl rfl 0 _ rfl yk_yX11_canTell_2 rfl (Nat.le_of_ble_eq_true rfl) (Nat.le_of_ble_eq_true rfl) (Nat.le_of_ble_eq_true rfl) (Nat.le_of_ble_eq_true rfl) (Nat.le_of_ble_eq_true rfl) rfl rfl (by decide +kernel) rfl (by decide +kernel) (by decide +kernel) ?_
  intro r_13 w zq
  refine exE9 zq ?_
  clear zq
  intro d_begin2_4 d_blackAt2_5 d_change2_6 d_changeFrame2_7 d_from2_8 d_lostAt2_9 d_motor2_10 d_slips2_11 d_startFrame2_12 iv_14 zq
  refine exA1 zq ?_
  clear zq
  intro hk_15 zq
  subst zq
  refine k_ws [(cO11_i1r1i10r1i2r5i2r12i3r4i2 h0 m_thrown2_1 a_tape m_taped m_size m_at m_end m_token m_whole m_nameSize m_fault m_place m_trouble2_2 a_letters m_failed m_hasHouse a_r a_fresh a_st a_undone a_kept m_undos m_images a_from a_begin a_motor a_change a_startFrame a_changeFrame a_lostAt a_blackAt a_slips a_leftArc a_died a_arcs m_bestSum m_nearest m_nearestTown a_there a_backAt a_sorted a_parts m_seed1 m_darkNow), (cAI g a_r 311 d_r), (cAI g a_st 44 d_st), (cAI g a_from 8 d_from2_8), (cAI g a_begin 8 d_begin2_4), (cAI g a_motor 8 d_motor2_10), (cAI g a_change 8 d_change2_6), (cAI g a_startFrame 8 d_startFrame2_12), (cAI g a_changeFrame 8 d_changeFrame2_7), (cAI g a_lostAt 8 d_lostAt2_9), (cAI g a_blackAt 8 d_blackAt2_5), (cAI g a_slips 8 d_slips2_11)] rfl ?_
  refine k_if_eq 30 X dX11_length_10 (by decide) (fun h_16 => ?_) (fun h_16 => ?_)
  · skip
    have iv_17 : IV r_13 0 0 := iv_meet iv_14 (iv_e h_16 (show IV 0 0 0 from (by decide))) (by decide) (by decide)
    refine k_aload_n X dX11_length_30 0 rfl ?_
    refine k_iconst (v := 1) X dX11_length_31 (by decide) ?_
    refine k_callVI (n := 1) (As := [.int 1]) (st := []) X [(cO11_i1r1i10r1i2r5i2r12i3r4i2 h0 m_thrown2_1 a_tape m_taped m_size m_at m_end m_token m_whole m_nameSize m_fault m_place m_trouble2_2 a_letters m_failed m_hasHouse a_r a_fresh a_st a_undone a_kept m_undos m_images a_from a_begin a_motor a_change a_startFrame a_changeFrame a_lostAt a_blackAt a_slips a_leftArc a_died a_arcs m_bestSum m_nearest m_nearestTown a_there a_backAt a_sorted a_parts m_seed1 m_darkNow)] [(cAI g a_r 311 d_r), (cAI g a_st 44 d_st), (cAI g a_from 8 d_from2_8), (cAI g a_begin 8 d_begin2_4), (cAI g a_motor 8 d_motor2_10), (cAI g a_change 8 d_change2_6), (cAI g a_startFrame 8 d_startFrame2_12), (cAI g a_changeFrame 8 d_changeFrame2_7), (cAI g a_lostAt 8 d_lostAt2_9), (cAI g a_blackAt 8 d_blackAt2_5), (cAI g a_slips 8 d_slips2_11)] [0] [1, 2, 3, 4, 5, 6, 7, 8, 9, 10, 11] (m_no l g h0 1 m_thrown2_1 a_tape m_taped m_size m_at m_end m_token m_whole m_nameSize m_fault m_place m_trouble2_2 a_letters m_failed m_hasHouse a_r a_fresh a_st a_undone a_kept m_undos m_images a_from a_begin a_motor a_change a_startFrame a_changeFrame a_lostAt a_blackAt a_slips a_leftArc a_died a_arcs m_bestSum m_nearest m_nearestTown a_there a_backAt a_sorted a_parts m_seed1 m_darkNow) dX11_length_32 mw485 mw486 mw487 mw5 mw488 rfl 11 rfl rfl 0 _ rfl yk_yX11_no_1 rfl (Nat.le_of_ble_eq_true rfl) (Nat.le_of_ble_eq_true rfl) (Nat.le_of_ble_eq_true rfl) (Nat.le_of_ble_eq_true rfl) (Nat.le_of_ble_eq_true rfl) rfl rfl (by decide +kernel) rfl (by decide +kernel) (by decide +kernel) ?_
    rintro r_19 w ⟨m_trouble2_18, iv_20, rfl⟩
    refine k_ws [(cAI g a_r 311 d_r), (cAI g a_st 44 d_st), (cAI g a_from 8 d_from2_8), (cAI g a_begin 8 d_begin2_4), (cAI g a_motor 8 d_motor2_10), (cAI g a_change 8 d_change2_6), (cAI g a_startFrame 8 d_startFrame2_12), (cAI g a_changeFrame 8 d_changeFrame2_7), (cAI g a_lostAt 8 d_lostAt2_9), (cAI g a_blackAt 8 d_blackAt2_5), (cAI g a_slips 8 d_slips2_11), (cO11_i1r1i10r1i2r5i2r12i3r4i2 h0 m_thrown2_1 a_tape m_taped m_size m_at m_end m_token m_whole m_nameSize m_fault m_place m_trouble2_18 a_letters m_failed m_hasHouse a_r a_fresh a_st a_undone a_kept m_undos m_images a_from a_begin a_motor a_change a_startFrame a_changeFrame a_lostAt a_blackAt a_slips a_leftArc a_died a_arcs m_bestSum m_nearest m_nearestTown a_there a_backAt a_sorted a_parts m_seed1 m_darkNow)] rfl ?_
    exact k_iret X hr dX11_length_35 (Nat.le_of_ble_eq_true rfl) (Nat.le_of_ble_eq_true rfl) [11, 0, 1, 2, 3, 4, 5, 6, 7, 8, 9, 10] (by decide) rfl rfl ⟨d_begin2_4, d_blackAt2_5, d_change2_6, d_changeFrame2_7, d_from2_8, d_lostAt2_9, d_motor2_10, d_slips2_11, d_startFrame2_12, m_thrown2_1, m_trouble2_18, rfl⟩
  · skip
    have hc_21 := hk_15.resolve_left h_16
    have iv_22 : IV p0 0 3 := iv_meet (iv_any p0) hc_21.1 (by decide) (by decide)
    have j_23 : 0 < (d_r 12).toInt := hc_21.2.2
    have iv_24 : IV r_13 1 1 := iv_neL h_16 iv_14 (show IV 0 0 0 from (by decide)) (by decide)
    refine k_aload_n X dX11_length_13 0 rfl ?_
    refine k_get (ci := 11) X inlX11 rfl 25 (by decide) dX11_length_14 mw178 0 rfl rfl ?_
    refine k_aload_n X dX11_length_17 0 rfl ?_
    refine k_get (ci := 11) X inlX11 rfl 15 (by decide) dX11_length_18 mw170 0 rfl rfl ?_
    refine k_bipush (v := 12) X dX11_length_21 (by decide) ?_
    refine k_iald X dX11_length_23 1 rfl (by unfold vp_in; decide) ?_
    refine k_nm (fun z_25 ez_25 => ?_)
    have i_26 : z_25.toInt = (d_r 12).toInt := by rw [ez_25]; rfl
    have iv_27 : IV z_25 0 8 := rb_12 ez_25 hp_d_r
    refine k_iconst (v := 1) X dX11_length_24 (by decide) ?_
    refine k_isub X dX11_length_25 ?_
    refine k_nm (fun z_28 ez_28 => ?_)
    have i_29 : z_28.toInt = z_25.toInt - 1 := in_sub ez_28 iv_27 (show IV 1 1 1 from (by decide)) (by decide) (by decide)
    have iv_30 : IV z_28 (-1) 7 := iz5 i_29 iv_27 (by decide) (by decide)
    refine k_iald X dX11_length_26 6 rfl (by rw [vp_in_iff]; have := iv_30; omega) ?_
    refine k_nm (fun z_31 ez_31 => ?_)
    refine k_goto 35 X dX11_length_27 (by decide) ?_
    exact k_iret X hr dX11_length_35 (Nat.le_of_ble_eq_true rfl) (Nat.le_of_ble_eq_true rfl) [0, 1, 2, 3, 4, 5, 6, 7, 8, 9, 10, 11] (by decide) rfl rfl ⟨d_begin2_4, d_blackAt2_5, d_change2_6, d_changeFrame2_7, d_from2_8, d_lostAt2_9, d_motor2_10, d_slips2_11, d_startFrame2_12, m_thrown2_1, m_trouble2_2, rfl⟩

theorem dX11_sumOf_0 : decode cX11_sumOf 0 = .ok (.iconst 0, 1) := dk_3 rfl
theorem dX11_sumOf_1 : decode cX11_sumOf 1 = .ok (.istore_n 2, 1) := dk_61 rfl
theorem dX11_sumOf_2 : decode cX11_sumOf 2 = .ok (.iconst 0, 1) := dk_3 rfl
theorem dX11_sumOf_3 : decode cX11_sumOf 3 = .ok (.istore_n 3, 1) := dk_62 rfl
theorem dX11_sumOf_4 : decode cX11_sumOf 4 = .ok (.iload_n 3, 1) := dk_29 rfl
theorem dX11_sumOf_5 : decode cX11_sumOf 5 = .ok (.aload_n 0, 1) := dk_42 rfl
theorem dX11_sumOf_6 : decode cX11_sumOf 6 = .ok (.getfield 20, 3) := dk_180 rfl rfl rfl rfl
theorem dX11_sumOf_9 : decode cX11_sumOf 9 = .ok (.bipush 12, 2) := dk_16 rfl rfl (by decide)
theorem dX11_sumOf_11 : decode cX11_sumOf 11 = .ok (.iaload, 1) := dk_46 rfl
theorem dX11_sumOf_12 : decode cX11_sumOf 12 = .ok (.if_icmp .ge 65, 3) := dk_162 rfl rfl rfl (by decide)
theorem dX11_sumOf_15 : decode cX11_sumOf 15 = .ok (.iload_n 2, 1) := dk_28 rfl
theorem dX11_sumOf_16 : decode cX11_sumOf 16 = .ok (.iload_n 1, 1) := dk_27 rfl
theorem dX11_sumOf_17 : decode cX11_sumOf 17 = .ok (.ifCond .ne 12, 3) := dk_154 rfl rfl rfl (by decide)
theorem dX11_sumOf_20 : decode cX11_sumOf 20 = .ok (.aload_n 0, 1) := dk_42 rfl
theorem dX11_sumOf_21 : decode cX11_sumOf 21 = .ok (.getfield 53, 3) := dk_180 rfl rfl rfl rfl
theorem dX11_sumOf_24 : decode cX11_sumOf 24 = .ok (.iload_n 3, 1) := dk_29 rfl
theorem dX11_sumOf_25 : decode cX11_sumOf 25 = .ok (.iaload, 1) := dk_46 rfl
theorem dX11_sumOf_26 : decode cX11_sumOf 26 = .ok (.goto 43, 3) := dk_167 rfl rfl rfl (by decide)
theorem dX11_sumOf_29 : decode cX11_sumOf 29 = .ok (.iload_n 1, 1) := dk_27 rfl
theorem dX11_sumOf_30 : decode cX11_sumOf 30 = .ok (.iconst 1, 1) := dk_4 rfl
theorem dX11_sumOf_31 : decode cX11_sumOf 31 = .ok (.if_icmp .ne 12, 3) := dk_160 rfl rfl rfl (by decide)
theorem dX11_sumOf_34 : decode cX11_sumOf 34 = .ok (.aload_n 0, 1) := dk_42 rfl
theorem dX11_sumOf_35 : decode cX11_sumOf 35 = .ok (.getfield 56, 3) := dk_180 rfl rfl rfl rfl
theorem dX11_sumOf_38 : decode cX11_sumOf 38 = .ok (.iload_n 3, 1) := dk_29 rfl
theorem dX11_sumOf_39 : decode cX11_sumOf 39 = .ok (.iaload, 1) := dk_46 rfl
theorem dX11_sumOf_40 : decode cX11_sumOf 40 = .ok (.goto 29, 3) := dk_167 rfl rfl rfl (by decide)
theorem dX11_sumOf_43 : decode cX11_sumOf 43 = .ok (.iload_n 1, 1) := dk_27 rfl
theorem dX11_sumOf_44 : decode cX11_sumOf 44 = .ok (.iconst 2, 1) := dk_5 rfl
theorem dX11_sumOf_45 : decode cX11_sumOf 45 = .ok (.if_icmp .ne 11, 3) := dk_160 rfl rfl rfl (by decide)
theorem dX11_sumOf_48 : decode cX11_sumOf 48 = .ok (.aload_n 0, 1) := dk_42 rfl
theorem dX11_sumOf_49 : decode cX11_sumOf 49 = .ok (.iload_n 3, 1) := dk_29 rfl
theorem dX11_sumOf_50 : decode cX11_sumOf 50 = .ok (.invokevirtual 379, 3) := dk_182 rfl rfl rfl rfl
theorem dX11_sumOf_53 : decode cX11_sumOf 53 = .ok (.goto 16, 3) := dk_167 rfl rfl rfl (by decide)
theorem dX11_sumOf_56 : decode cX11_sumOf 56 = .ok (.aload_n 0, 1) := dk_42 rfl
theorem dX11_sumOf_57 : decode cX11_sumOf 57 = .ok (.iload_n 3, 1) := dk_29 rfl
theorem dX11_sumOf_58 : decode cX11_sumOf 58 = .ok (.invokevirtual 357, 3) := dk_182 rfl rfl rfl rfl
theorem dX11_sumOf_61 : decode cX11_sumOf 61 = .ok (.ifCond .eq 7, 3) := dk_153 rfl rfl rfl (by decide)
theorem dX11_sumOf_64 : decode cX11_sumOf 64 = .ok (.iconst 1, 1) := dk_4 rfl
theorem dX11_sumOf_65 : decode cX11_sumOf 65 = .ok (.goto 4, 3) := dk_167 rfl rfl rfl (by decide)
theorem dX11_sumOf_68 : decode cX11_sumOf 68 = .ok (.iconst 0, 1) := dk_3 rfl
theorem dX11_sumOf_69 : decode cX11_sumOf 69 = .ok (.iadd, 1) := dk_96 rfl
theorem dX11_sumOf_70 : decode cX11_sumOf 70 = .ok (.istore_n 2, 1) := dk_61 rfl
theorem dX11_sumOf_71 : decode cX11_sumOf 71 = .ok (.iinc 3 1, 3) := dk_132 rfl rfl rfl rfl (by decide)
theorem dX11_sumOf_74 : decode cX11_sumOf 74 = .ok (.goto (-70), 3) := dk_167 rfl rfl rfl (by decide)
theorem dX11_sumOf_77 : decode cX11_sumOf 77 = .ok (.iload_n 2, 1) := dk_28 rfl
theorem dX11_sumOf_78 : decode cX11_sumOf 78 = .ok (.ireturn, 1) := dk_172 rfl
set_option maxHeartbeats 4000000 in
set_option maxRecDepth 100000 in
theorem m_sumOf (l : Launch) (g : Gx) (h0 : Nat) (p0 : Int32) (m_thrown : Int32) (a_tape : Nat) (m_taped : Int32) (m_size : Int32) (m_at : Int32) (m_end : Int32) (m_token : Int32) (m_whole : Int32) (m_nameSize : Int32) (m_fault : Int32) (m_place : Int32) (m_trouble : Int32) (a_letters : Nat) (m_failed : Int32) (m_hasHouse : Int32) (a_r : Nat) (a_fresh : Nat) (a_st : Nat) (a_undone : Nat) (a_kept : Nat) (m_undos : Int32) (m_images : Int32) (a_from : Nat) (a_begin : Nat) (a_motor : Nat) (a_change : Nat) (a_startFrame : Nat) (a_changeFrame : Nat) (a_lostAt : Nat) (a_blackAt : Nat) (a_slips : Nat) (a_leftArc : Nat) (a_died : Nat) (a_arcs : Nat) (m_bestSum : Int32) (m_nearest : Int32) (m_nearestTown : Int32) (a_there : Nat) (a_backAt : Nat) (a_sorted : Nat) (a_parts : Nat) (m_seed1 : Int32) (m_darkNow : Int32) (d_r : Nat → Int32) (d_st : Nat → Int32) (d_from : Nat → Int32) (d_changeFrame : Nat → Int32) (d_lostAt : Nat → Int32) (d_blackAt : Nat → Int32) (hp_d_r : RInv d_r) : cI l g yX11_sumOf cX11_sumOf 4 (some .int) 4 84 0 0 [.ref h0, .int p0] [(cO11_i1r1i10r1i2r5i2r12i3r4i2 h0 m_thrown a_tape m_taped m_size m_at m_end m_token m_whole m_nameSize m_fault m_place m_trouble a_letters m_failed m_hasHouse a_r a_fresh a_st a_undone a_kept m_undos m_images a_from a_begin a_motor a_change a_startFrame a_changeFrame a_lostAt a_blackAt a_slips a_leftArc a_died a_arcs m_bestSum m_nearest m_nearestTown a_there a_backAt a_sorted a_parts m_seed1 m_darkNow), (cAI g a_r 311 d_r), (cAI g a_st 44 d_st), (cAI g a_from 8 d_from), (cAI g a_changeFrame 8 d_changeFrame), (cAI g a_lostAt 8 d_lostAt), (cAI g a_blackAt 8 d_blackAt)] (fun r w => w = [(cO11_i1r1i10r1i2r5i2r12i3r4i2 h0 m_thrown a_tape m_taped m_size m_at m_end m_token m_whole m_nameSize m_fault m_place m_trouble a_letters m_failed m_hasHouse a_r a_fresh a_st a_undone a_kept m_undos m_images a_from a_begin a_motor a_change a_startFrame a_changeFrame a_lostAt a_blackAt a_slips a_leftArc a_died a_arcs m_bestSum m_nearest m_nearestTown a_there a_backAt a_sorted a_parts m_seed1 m_darkNow), (cAI g a_r 311 d_r), (cAI g a_st 44 d_st), (cAI g a_from 8 d_from), (cAI g a_changeFrame 8 d_changeFrame), (cAI g a_lostAt 8 d_lostAt), (cAI g a_blackAt 8 d_blackAt)]) := by
  refine cI.of (by decide) (Nat.le_of_ble_eq_true rfl) ?_
  intro p e s m args below meth c A X hr hi
  refine k_lveq [(0, .ref h0), (1, .int p0)] rfl ?_
  refine k_iconst (v := 0) X dX11_sumOf_0 (by decide) ?_
  refine k_istore_n [(2, .int 0), (0, .ref h0), (1, .int p0)] X dX11_sumOf_1 (by decide) rfl ?_
  refine k_iconst (v := 0) X dX11_sumOf_2 (by decide) ?_
  refine k_istore_n [(3, .int 0), (2, .int 0), (0, .ref h0), (1, .int p0)] X dX11_sumOf_3 (by decide) rfl ?_
  refine (fun hL : ∀ (nn_4 : Nat) (u_1 : Int32) (u_2 : Int32), (2147483647 - u_2.toInt).toNat = nn_4 → (IV u_2 0 8) → Wk p l e _ s m args below meth c _ A g _ _ _ [(cO11_i1r1i10r1i2r5i2r12i3r4i2 h0 m_thrown a_tape m_taped m_size m_at m_end m_token m_whole m_nameSize m_fault m_place m_trouble a_letters m_failed m_hasHouse a_r a_fresh a_st a_undone a_kept m_undos m_images a_from a_begin a_motor a_change a_startFrame a_changeFrame a_lostAt a_blackAt a_slips a_leftArc a_died a_arcs m_bestSum m_nearest m_nearestTown a_there a_backAt a_sorted a_parts m_seed1 m_darkNow), (cAI g a_r 311 d_r), (cAI g a_st 44 d_st), (cAI g a_from 8 d_from), (cAI g a_changeFrame 8 d_changeFrame), (cAI g a_lostAt 8 d_lostAt), (cAI g a_blackAt 8 d_blackAt)] [(3, .int u_2), (2, .int u_1), (0, .ref h0), (1, .int p0)] 4 [] => hL _ 0 0 rfl (iv_w (show IV 0 0 0 from (by decide)) (by decide) (by decide))) ?_
  refine fun nn_4 => Nat.strongRecOn nn_4 (fun nn_4 ih_6 => ?_)
  intro u_1 u_2 hm_5 hv_3
  refine k_iload_n X dX11_sumOf_4 0 rfl ?_
  refine k_aload_n X dX11_sumOf_5 2 rfl ?_
  refine k_get (ci := 11) X inlX11 rfl 15 (by decide) dX11_sumOf_6 mw170 0 rfl rfl ?_
  refine k_bipush (v := 12) X dX11_sumOf_9 (by decide) ?_
  refine k_iald X dX11_sumOf_11 1 rfl (by unfold vp_in; decide) ?_
  refine k_nm (fun z_7 ez_7 => ?_)
  have i_8 : z_7.toInt = (d_r 12).toInt := by rw [ez_7]; rfl
  have iv_9 : IV z_7 0 8 := rb_12 ez_7 hp_d_r
  refine k_ic_ge 77 X dX11_sumOf_12 (by decide) (fun h_10 => ?_) (fun h_10 => ?_)
  · skip
    have j_11 : z_7.toInt ≤ u_2.toInt := iv_le h_10
    refine k_iload_n X dX11_sumOf_77 1 rfl ?_
    exact k_iret X hr dX11_sumOf_78 (Nat.le_of_ble_eq_true rfl) (Nat.le_of_ble_eq_true rfl) [0, 1, 2, 3, 4, 5, 6] (by decide) rfl rfl rfl
  · skip
    have j_12 : u_2.toInt < z_7.toInt := iv_nle h_10
    have iv_13 : IV u_2 0 7 := iv_ltL (iv_nle h_10) hv_3 iv_9 (by decide)
    have iv_14 : IV z_7 1 8 := iv_ltR (iv_nle h_10) hv_3 iv_9 (by decide)
    refine k_iload_n X dX11_sumOf_15 1 rfl ?_
    refine k_iload_n X dX11_sumOf_16 3 rfl ?_
    refine k_if_ne 29 X dX11_sumOf_17 (by decide) (fun h_15 => ?_) (fun h_15 => ?_)
    · skip
      refine k_iload_n X dX11_sumOf_29 3 rfl ?_
      refine k_iconst (v := 1) X dX11_sumOf_30 (by decide) ?_
      refine k_ic_ne 43 X dX11_sumOf_31 (by decide) (fun h_16 => ?_) (fun h_16 => ?_)
      · skip
        refine k_iload_n X dX11_sumOf_43 3 rfl ?_
        refine k_iconst (v := 2) X dX11_sumOf_44 (by decide) ?_
        refine k_ic_ne 56 X dX11_sumOf_45 (by decide) (fun h_17 => ?_) (fun h_17 => ?_)
        · skip
          refine k_aload_n X dX11_sumOf_56 2 rfl ?_
          refine k_iload_n X dX11_sumOf_57 0 rfl ?_
          refine k_callVI (n := 1) (As := [.int u_2]) (st := [.int u_1]) X [(cO11_i1r1i10r1i2r5i2r12i3r4i2 h0 m_thrown a_tape m_taped m_size m_at m_end m_token m_whole m_nameSize m_fault m_place m_trouble a_letters m_failed m_hasHouse a_r a_fresh a_st a_undone a_kept m_undos m_images a_from a_begin a_motor a_change a_startFrame a_changeFrame a_lostAt a_blackAt a_slips a_leftArc a_died a_arcs m_bestSum m_nearest m_nearestTown a_there a_backAt a_sorted a_parts m_seed1 m_darkNow), (cAI g a_r 311 d_r), (cAI g a_st 44 d_st), (cAI g a_from 8 d_from)] [(cAI g a_changeFrame 8 d_changeFrame), (cAI g a_lostAt 8 d_lostAt), (cAI g a_blackAt 8 d_blackAt)] [0, 1, 2, 3] [4, 5, 6] (m_isGone l g h0 u_2 m_thrown a_tape m_taped m_size m_at m_end m_token m_whole m_nameSize m_fault m_place m_trouble a_letters m_failed m_hasHouse a_r a_fresh a_st a_undone a_kept m_undos m_images a_from a_begin a_motor a_change a_startFrame a_changeFrame a_lostAt a_blackAt a_slips a_leftArc a_died a_arcs m_bestSum m_nearest m_nearestTown a_there a_backAt a_sorted a_parts m_seed1 m_darkNow d_r d_st d_from (iv_w iv_13 (by decide) (by decide)) hp_d_r) dX11_sumOf_58 mw827 mw828 mw829 mw5 mw830 rfl 11 rfl rfl 0 _ rfl yk_yX11_isGone_1 rfl (Nat.le_of_ble_eq_true rfl) (Nat.le_of_ble_eq_true rfl) (Nat.le_of_ble_eq_true rfl) (Nat.le_of_ble_eq_true rfl) (Nat.le_of_ble_eq_true rfl) rfl rfl (by decide) rfl (by decide) (by decide) ?_
          rintro r_18 w ⟨iv_19, rfl⟩
          refine k_ws [(cAI g a_changeFrame 8 d_changeFrame), (cAI g a_lostAt 8 d_lostAt), (cAI g a_blackAt 8 d_blackAt), (cO11_i1r1i10r1i2r5i2r12i3r4i2 h0 m_thrown a_tape m_taped m_size m_at m_end m_token m_whole m_nameSize m_fault m_place m_trouble a_letters m_failed m_hasHouse a_r a_fresh a_st a_undone a_kept m_undos m_images a_from a_begin a_motor a_change a_startFrame a_changeFrame a_lostAt a_blackAt a_slips a_leftArc a_died a_arcs m_bestSum m_nearest m_nearestTown a_there a_backAt a_sorted a_parts m_seed1 m_darkNow), (cAI g a_r 311 d_r), (cAI g a_st 44 d_st), (cAI g a_from 8 d_from)] rfl ?_
          refine k_if_eq 68 X dX11_sumOf_61 (by decide) (fun h_20 => ?_) (fun h_20 => ?_)
          · skip
            have iv_21 : IV r_18 0 0 := iv_meet iv_19 (iv_e h_20 (show IV 0 0 0 from (by decide))) (by decide) (by decide)
            refine k_iconst (v := 0) X dX11_sumOf_68 (by decide) ?_
            refine k_iadd X dX11_sumOf_69 ?_
            refine k_nm (fun z_22 ez_22 => ?_)
            have i_23 : z_22.toInt = u_1.toInt + 0 := in_add ez_22 (iv_any u_1) (show IV 0 0 0 from (by decide)) (by decide) (by decide)
            have iv_24 : IV z_22 (-2147483648) 2147483647 := by have := (iv_any u_1); have := (show IV 0 0 0 from (by decide)); rw [IV, i_23]; omega
            refine k_istore_n [(2, .int z_22), (3, .int u_2), (0, .ref h0), (1, .int p0)] X dX11_sumOf_70 (by decide) rfl ?_
            obtain ⟨z_25, ez_25⟩ : ∃ y : Int32, u_2 + Int32.ofInt 1 = y := ⟨_, rfl⟩
            refine k_iinc z_25 [(3, .int z_25), (2, .int z_22), (0, .ref h0), (1, .int p0)] 1 X dX11_sumOf_71 rfl ez_25 (by decide) rfl ?_
            have i_26 : z_25.toInt = u_2.toInt + 1 := in_inc ez_25 (by decide) iv_13 (by decide) (by decide)
            have iv_27 : IV z_25 1 8 := iz1 i_26 iv_13 (by decide) (by decide)
            refine k_goto 4 X dX11_sumOf_74 (by decide) ?_
            refine k_sub [(cO11_i1r1i10r1i2r5i2r12i3r4i2 h0 m_thrown a_tape m_taped m_size m_at m_end m_token m_whole m_nameSize m_fault m_place m_trouble a_letters m_failed m_hasHouse a_r a_fresh a_st a_undone a_kept m_undos m_images a_from a_begin a_motor a_change a_startFrame a_changeFrame a_lostAt a_blackAt a_slips a_leftArc a_died a_arcs m_bestSum m_nearest m_nearestTown a_there a_backAt a_sorted a_parts m_seed1 m_darkNow), (cAI g a_r 311 d_r), (cAI g a_st 44 d_st), (cAI g a_from 8 d_from), (cAI g a_changeFrame 8 d_changeFrame), (cAI g a_lostAt 8 d_lostAt), (cAI g a_blackAt 8 d_blackAt)] [3, 4, 5, 6, 0, 1, 2] rfl (by decide) rfl ?_
            exact ih_6 _ (by omega) z_22 z_25 rfl (iv_w iv_27 (by decide) (by decide))
          · skip
            have iv_28 : IV r_18 1 1 := iv_neL h_20 iv_19 (show IV 0 0 0 from (by decide)) (by decide)
            refine k_iconst (v := 1) X dX11_sumOf_64 (by decide) ?_
            refine k_goto 69 X dX11_sumOf_65 (by decide) ?_
            refine k_iadd X dX11_sumOf_69 ?_
            refine k_nm (fun z_29 ez_29 => ?_)
            refine k_istore_n [(2, .int z_29), (3, .int u_2), (0, .ref h0), (1, .int p0)] X dX11_sumOf_70 (by decide) rfl ?_
            obtain ⟨z_31, ez_31⟩ : ∃ y : Int32, u_2 + Int32.ofInt 1 = y := ⟨_, rfl⟩
            refine k_iinc z_31 [(3, .int z_31), (2, .int z_29), (0, .ref h0), (1, .int p0)] 1 X dX11_sumOf_71 rfl ez_31 (by decide) rfl ?_
            have i_32 : z_31.toInt = u_2.toInt + 1 := in_inc ez_31 (by decide) iv_13 (by decide) (by decide)
            have iv_33 : IV z_31 1 8 := iz1 i_32 iv_13 (by decide) (by decide)
            refine k_goto 4 X dX11_sumOf_74 (by decide) ?_
            refine k_sub [(cO11_i1r1i10r1i2r5i2r12i3r4i2 h0 m_thrown a_tape m_taped m_size m_at m_end m_token m_whole m_nameSize m_fault m_place m_trouble a_letters m_failed m_hasHouse a_r a_fresh a_st a_undone a_kept m_undos m_images a_from a_begin a_motor a_change a_startFrame a_changeFrame a_lostAt a_blackAt a_slips a_leftArc a_died a_arcs m_bestSum m_nearest m_nearestTown a_there a_backAt a_sorted a_parts m_seed1 m_darkNow), (cAI g a_r 311 d_r), (cAI g a_st 44 d_st), (cAI g a_from 8 d_from), (cAI g a_changeFrame 8 d_changeFrame), (cAI g a_lostAt 8 d_lostAt), (cAI g a_blackAt 8 d_blackAt)] [3, 4, 5, 6, 0, 1, 2] rfl (by decide) rfl ?_
            exact ih_6 _ (by omega) z_29 z_31 rfl (iv_w iv_33 (by decide) (by decide))
        · skip
          have iv_34 : IV p0 2 2 := iv_meet (iv_any p0) (iv_e h_17 (show IV 2 2 2 from (by decide))) (by decide) (by decide)
          refine k_aload_n X dX11_sumOf_48 2 rfl ?_
          refine k_iload_n X dX11_sumOf_49 0 rfl ?_
          refine k_callVI (n := 1) (As := [.int u_2]) (st := [.int u_1]) X [(cO11_i1r1i10r1i2r5i2r12i3r4i2 h0 m_thrown a_tape m_taped m_size m_at m_end m_token m_whole m_nameSize m_fault m_place m_trouble a_letters m_failed m_hasHouse a_r a_fresh a_st a_undone a_kept m_undos m_images a_from a_begin a_motor a_change a_startFrame a_changeFrame a_lostAt a_blackAt a_slips a_leftArc a_died a_arcs m_bestSum m_nearest m_nearestTown a_there a_backAt a_sorted a_parts m_seed1 m_darkNow), (cAI g a_r 311 d_r), (cAI g a_st 44 d_st), (cAI g a_from 8 d_from), (cAI g a_changeFrame 8 d_changeFrame)] [(cAI g a_lostAt 8 d_lostAt), (cAI g a_blackAt 8 d_blackAt)] [0, 1, 2, 3, 4] [5, 6] (m_tailOf l g h0 u_2 m_thrown a_tape m_taped m_size m_at m_end m_token m_whole m_nameSize m_fault m_place m_trouble a_letters m_failed m_hasHouse a_r a_fresh a_st a_undone a_kept m_undos m_images a_from a_begin a_motor a_change a_startFrame a_changeFrame a_lostAt a_blackAt a_slips a_leftArc a_died a_arcs m_bestSum m_nearest m_nearestTown a_there a_backAt a_sorted a_parts m_seed1 m_darkNow d_r d_st d_from d_changeFrame (iv_w iv_13 (by decide) (by decide)) hp_d_r) dX11_sumOf_50 mw885 mw886 mw887 mw5 mw888 rfl 11 rfl rfl 0 _ rfl yk_yX11_tailOf_1 rfl (Nat.le_of_ble_eq_true rfl) (Nat.le_of_ble_eq_true rfl) (Nat.le_of_ble_eq_true rfl) (Nat.le_of_ble_eq_true rfl) (Nat.le_of_ble_eq_true rfl) rfl rfl (by decide) rfl (by decide) (by decide) ?_
          rintro r_35 w rfl
          refine k_ws [(cAI g a_lostAt 8 d_lostAt), (cAI g a_blackAt 8 d_blackAt), (cO11_i1r1i10r1i2r5i2r12i3r4i2 h0 m_thrown a_tape m_taped m_size m_at m_end m_token m_whole m_nameSize m_fault m_place m_trouble a_letters m_failed m_hasHouse a_r a_fresh a_st a_undone a_kept m_undos m_images a_from a_begin a_motor a_change a_startFrame a_changeFrame a_lostAt a_blackAt a_slips a_leftArc a_died a_arcs m_bestSum m_nearest m_nearestTown a_there a_backAt a_sorted a_parts m_seed1 m_darkNow), (cAI g a_r 311 d_r), (cAI g a_st 44 d_st), (cAI g a_from 8 d_from), (cAI g a_changeFrame 8 d_changeFrame)] rfl ?_
          refine k_goto 69 X dX11_sumOf_53 (by decide) ?_
          refine k_iadd X dX11_sumOf_69 ?_
          refine k_nm (fun z_36 ez_36 => ?_)
          refine k_istore_n [(2, .int z_36), (3, .int u_2), (0, .ref h0), (1, .int p0)] X dX11_sumOf_70 (by decide) rfl ?_
          obtain ⟨z_38, ez_38⟩ : ∃ y : Int32, u_2 + Int32.ofInt 1 = y := ⟨_, rfl⟩
          refine k_iinc z_38 [(3, .int z_38), (2, .int z_36), (0, .ref h0), (1, .int p0)] 1 X dX11_sumOf_71 rfl ez_38 (by decide) rfl ?_
          have i_39 : z_38.toInt = u_2.toInt + 1 := in_inc ez_38 (by decide) iv_13 (by decide) (by decide)
          have iv_40 : IV z_38 1 8 := iz1 i_39 iv_13 (by decide) (by decide)
          refine k_goto 4 X dX11_sumOf_74 (by decide) ?_
          refine k_sub [(cO11_i1r1i10r1i2r5i2r12i3r4i2 h0 m_thrown a_tape m_taped m_size m_at m_end m_token m_whole m_nameSize m_fault m_place m_trouble a_letters m_failed m_hasHouse a_r a_fresh a_st a_undone a_kept m_undos m_images a_from a_begin a_motor a_change a_startFrame a_changeFrame a_lostAt a_blackAt a_slips a_leftArc a_died a_arcs m_bestSum m_nearest m_nearestTown a_there a_backAt a_sorted a_parts m_seed1 m_darkNow), (cAI g a_r 311 d_r), (cAI g a_st 44 d_st), (cAI g a_from 8 d_from), (cAI g a_changeFrame 8 d_changeFrame), (cAI g a_lostAt 8 d_lostAt), (cAI g a_blackAt 8 d_blackAt)] [2, 3, 4, 5, 6, 0, 1] rfl (by decide) rfl ?_
          exact ih_6 _ (by omega) z_36 z_38 rfl (iv_w iv_40 (by decide) (by decide))
      · skip
        have iv_41 : IV p0 1 1 := iv_meet (iv_any p0) (iv_e h_16 (show IV 1 1 1 from (by decide))) (by decide) (by decide)
        refine k_aload_n X dX11_sumOf_34 2 rfl ?_
        refine k_get (ci := 11) X inlX11 rfl 29 (by decide) dX11_sumOf_35 mw182 0 rfl rfl ?_
        refine k_iload_n X dX11_sumOf_38 0 rfl ?_
        refine k_iald X dX11_sumOf_39 6 rfl (iv_in iv_13 (by decide) (by decide)) ?_
        refine k_nm (fun z_42 ez_42 => ?_)
        refine k_goto 69 X dX11_sumOf_40 (by decide) ?_
        refine k_iadd X dX11_sumOf_69 ?_
        refine k_nm (fun z_43 ez_43 => ?_)
        refine k_istore_n [(2, .int z_43), (3, .int u_2), (0, .ref h0), (1, .int p0)] X dX11_sumOf_70 (by decide) rfl ?_
        obtain ⟨z_45, ez_45⟩ : ∃ y : Int32, u_2 + Int32.ofInt 1 = y := ⟨_, rfl⟩
        refine k_iinc z_45 [(3, .int z_45), (2, .int z_43), (0, .ref h0), (1, .int p0)] 1 X dX11_sumOf_71 rfl ez_45 (by decide) rfl ?_
        have i_46 : z_45.toInt = u_2.toInt + 1 := in_inc ez_45 (by decide) iv_13 (by decide) (by decide)
        have iv_47 : IV z_45 1 8 := iz1 i_46 iv_13 (by decide) (by decide)
        refine k_goto 4 X dX11_sumOf_74 (by decide) ?_
        exact ih_6 _ (by omega) z_43 z_45 rfl (iv_w iv_47 (by decide) (by decide))
    · skip
      have iv_48 : IV p0 0 0 := iv_meet (iv_any p0) (iv_e h_15 (show IV 0 0 0 from (by decide))) (by decide) (by decide)
      refine k_aload_n X dX11_sumOf_20 2 rfl ?_
      refine k_get (ci := 11) X inlX11 rfl 28 (by decide) dX11_sumOf_21 mw181 0 rfl rfl ?_
      refine k_iload_n X dX11_sumOf_24 0 rfl ?_
      refine k_iald X dX11_sumOf_25 5 rfl (iv_in iv_13 (by decide) (by decide)) ?_
      refine k_nm (fun z_49 ez_49 => ?_)
      refine k_goto 69 X dX11_sumOf_26 (by decide) ?_
      refine k_iadd X dX11_sumOf_69 ?_
      refine k_nm (fun z_50 ez_50 => ?_)
      refine k_istore_n [(2, .int z_50), (3, .int u_2), (0, .ref h0), (1, .int p0)] X dX11_sumOf_70 (by decide) rfl ?_
      obtain ⟨z_52, ez_52⟩ : ∃ y : Int32, u_2 + Int32.ofInt 1 = y := ⟨_, rfl⟩
      refine k_iinc z_52 [(3, .int z_52), (2, .int z_50), (0, .ref h0), (1, .int p0)] 1 X dX11_sumOf_71 rfl ez_52 (by decide) rfl ?_
      have i_53 : z_52.toInt = u_2.toInt + 1 := in_inc ez_52 (by decide) iv_13 (by decide) (by decide)
      have iv_54 : IV z_52 1 8 := iz1 i_53 iv_13 (by decide) (by decide)
      refine k_goto 4 X dX11_sumOf_74 (by decide) ?_
      exact ih_6 _ (by omega) z_50 z_52 rfl (iv_w iv_54 (by decide) (by decide))

theorem dX11_all_0 : decode cX11_all 0 = .ok (.aload_n 0, 1) := dk_42 rfl
theorem dX11_all_1 : decode cX11_all 1 = .ok (.invokevirtual 200, 3) := dk_182 rfl rfl rfl rfl
theorem dX11_all_4 : decode cX11_all 4 = .ok (.iload_n 2, 1) := dk_28 rfl
theorem dX11_all_5 : decode cX11_all 5 = .ok (.iconst 0, 1) := dk_3 rfl
theorem dX11_all_6 : decode cX11_all 6 = .ok (.iconst 3, 1) := dk_6 rfl
theorem dX11_all_7 : decode cX11_all 7 = .ok (.invokestatic 182, 3) := dk_184 rfl rfl rfl rfl
theorem dX11_all_10 : decode cX11_all 10 = .ok (.ifCond .eq 20, 3) := dk_153 rfl rfl rfl (by decide)
theorem dX11_all_13 : decode cX11_all 13 = .ok (.aload_n 0, 1) := dk_42 rfl
theorem dX11_all_14 : decode cX11_all 14 = .ok (.iload_n 1, 1) := dk_27 rfl
theorem dX11_all_15 : decode cX11_all 15 = .ok (.iconst 0, 1) := dk_3 rfl
theorem dX11_all_16 : decode cX11_all 16 = .ok (.invokevirtual 376, 3) := dk_182 rfl rfl rfl rfl
theorem dX11_all_19 : decode cX11_all 19 = .ok (.ifCond .eq 11, 3) := dk_153 rfl rfl rfl (by decide)
theorem dX11_all_22 : decode cX11_all 22 = .ok (.aload_n 0, 1) := dk_42 rfl
theorem dX11_all_23 : decode cX11_all 23 = .ok (.iload_n 2, 1) := dk_28 rfl
theorem dX11_all_24 : decode cX11_all 24 = .ok (.invokevirtual 382, 3) := dk_182 rfl rfl rfl rfl
theorem dX11_all_27 : decode cX11_all 27 = .ok (.goto 8, 3) := dk_167 rfl rfl rfl (by decide)
theorem dX11_all_30 : decode cX11_all 30 = .ok (.aload_n 0, 1) := dk_42 rfl
theorem dX11_all_31 : decode cX11_all 31 = .ok (.iconst 1, 1) := dk_4 rfl
theorem dX11_all_32 : decode cX11_all 32 = .ok (.invokevirtual 203, 3) := dk_182 rfl rfl rfl rfl
theorem dX11_all_35 : decode cX11_all 35 = .ok (.ireturn, 1) := dk_172 rfl
set_option maxHeartbeats 4000000 in
set_option maxRecDepth 100000 in
theorem m_all (l : Launch) (g : Gx) (h0 : Nat) (p0 : Int32) (p1 : Int32) (m_thrown : Int32) (a_tape : Nat) (m_taped : Int32) (m_size : Int32) (m_at : Int32) (m_end : Int32) (m_token : Int32) (m_whole : Int32) (m_nameSize : Int32) (m_fault : Int32) (m_place : Int32) (m_trouble : Int32) (a_letters : Nat) (m_failed : Int32) (m_hasHouse : Int32) (a_r : Nat) (a_fresh : Nat) (a_st : Nat) (a_undone : Nat) (a_kept : Nat) (m_undos : Int32) (m_images : Int32) (a_from : Nat) (a_begin : Nat) (a_motor : Nat) (a_change : Nat) (a_startFrame : Nat) (a_changeFrame : Nat) (a_lostAt : Nat) (a_blackAt : Nat) (a_slips : Nat) (a_leftArc : Nat) (a_died : Nat) (a_arcs : Nat) (m_bestSum : Int32) (m_nearest : Int32) (m_nearestTown : Int32) (a_there : Nat) (a_backAt : Nat) (a_sorted : Nat) (a_parts : Nat) (m_seed1 : Int32) (m_darkNow : Int32) (d_r : Nat → Int32) (d_st : Nat → Int32) (d_from : Nat → Int32) (d_begin : Nat → Int32) (d_motor : Nat → Int32) (d_change : Nat → Int32) (d_startFrame : Nat → Int32) (d_changeFrame : Nat → Int32) (d_lostAt : Nat → Int32) (d_blackAt : Nat → Int32) (d_slips : Nat → Int32) (hv_m_hasHouse : IV m_hasHouse 0 1) (hp_d_r : RInv d_r) : cI l g yX11_all cX11_all 3 (some .int) 6 132 0 0 [.ref h0, .int p0, .int p1] [(cO11_i1r1i10r1i2r5i2r12i3r4i2 h0 m_thrown a_tape m_taped m_size m_at m_end m_token m_whole m_nameSize m_fault m_place m_trouble a_letters m_failed m_hasHouse a_r a_fresh a_st a_undone a_kept m_undos m_images a_from a_begin a_motor a_change a_startFrame a_changeFrame a_lostAt a_blackAt a_slips a_leftArc a_died a_arcs m_bestSum m_nearest m_nearestTown a_there a_backAt a_sorted a_parts m_seed1 m_darkNow), (cAI g a_r 311 d_r), (cAI g a_st 44 d_st), (cAI g a_from 8 d_from), (cAI g a_begin 8 d_begin), (cAI g a_motor 8 d_motor), (cAI g a_change 8 d_change), (cAI g a_startFrame 8 d_startFrame), (cAI g a_changeFrame 8 d_changeFrame), (cAI g a_lostAt 8 d_lostAt), (cAI g a_blackAt 8 d_blackAt), (cAI g a_slips 8 d_slips)] (fun r w => ∃ (d_begin2 : Nat → Int32) (d_blackAt2 : Nat → Int32) (d_change2 : Nat → Int32) (d_changeFrame2 : Nat → Int32) (d_from2 : Nat → Int32) (d_lostAt2 : Nat → Int32) (d_motor2 : Nat → Int32) (d_slips2 : Nat → Int32) (d_startFrame2 : Nat → Int32) (m_thrown2 : Int32) (m_trouble2 : Int32), w = [(cO11_i1r1i10r1i2r5i2r12i3r4i2 h0 m_thrown2 a_tape m_taped m_size m_at m_end m_token m_whole m_nameSize m_fault m_place m_trouble2 a_letters m_failed m_hasHouse a_r a_fresh a_st a_undone a_kept m_undos m_images a_from a_begin a_motor a_change a_startFrame a_changeFrame a_lostAt a_blackAt a_slips a_leftArc a_died a_arcs m_bestSum m_nearest m_nearestTown a_there a_backAt a_sorted a_parts m_seed1 m_darkNow), (cAI g a_r 311 d_r), (cAI g a_st 44 d_st), (cAI g a_from 8 d_from2), (cAI g a_begin 8 d_begin2), (cAI g a_motor 8 d_motor2), (cAI g a_change 8 d_change2), (cAI g a_startFrame 8 d_startFrame2), (cAI g a_changeFrame 8 d_changeFrame2), (cAI g a_lostAt 8 d_lostAt2), (cAI g a_blackAt 8 d_blackAt2), (cAI g a_slips 8 d_slips2)]) := by
  refine cI.of (by decide) (Nat.le_of_ble_eq_true rfl) ?_
  intro p e s m args below meth c A X hr hi
  refine k_lveq [(0, .ref h0), (1, .int p0), (2, .int p1)] rfl ?_
  refine k_aload_n X dX11_all_0 0 rfl ?_
  refine k_callVV (n := 0) (As := []) (st := []) X [(cO11_i1r1i10r1i2r5i2r12i3r4i2 h0 m_thrown a_tape m_taped m_size m_at m_end m_token m_whole m_nameSize m_fault m_place m_trouble a_letters m_failed m_hasHouse a_r a_fresh a_st a_undone a_kept m_undos m_images a_from a_begin a_motor a_change a_startFrame a_changeFrame a_lostAt a_blackAt a_slips a_leftArc a_died a_arcs m_bestSum m_nearest m_nearestTown a_there a_backAt a_sorted a_parts m_seed1 m_darkNow)] [(cAI g a_r 311 d_r), (cAI g a_st 44 d_st), (cAI g a_from 8 d_from), (cAI g a_begin 8 d_begin), (cAI g a_motor 8 d_motor), (cAI g a_change 8 d_change), (cAI g a_startFrame 8 d_startFrame), (cAI g a_changeFrame 8 d_changeFrame), (cAI g a_lostAt 8 d_lostAt), (cAI g a_blackAt 8 d_blackAt), (cAI g a_slips 8 d_slips)] [0] [1, 2, 3, 4, 5, 6, 7, 8, 9, 10, 11] (m_good l g h0 m_thrown a_tape m_taped m_size m_at m_end m_token m_whole m_nameSize m_fault m_place m_trouble a_letters m_failed m_hasHouse a_r a_fresh a_st a_undone a_kept m_undos m_images a_from a_begin a_motor a_change a_startFrame a_changeFrame a_lostAt a_blackAt a_slips a_leftArc a_died a_arcs m_bestSum m_nearest m_nearestTown a_there a_backAt a_sorted a_parts m_seed1 m_darkNow) dX11_all_1 mw477 mw478 mw479 mw5 mw480 rfl 11 rfl rfl 0 _ rfl yk_yX11_good_0 rfl (Nat.le_of_ble_eq_true rfl) (Nat.le_of_ble_eq_true rfl) (Nat.le_of_ble_eq_true rfl) (Nat.le_of_ble_eq_true rfl) (Nat.le_of_ble_eq_true rfl) rfl rfl (by decide +kernel) rfl (by decide +kernel) (by decide +kernel) ?_
  rintro w ⟨m_thrown2_1, m_trouble2_2, rfl⟩
  refine k_ws [(cAI g a_r 311 d_r), (cAI g a_st 44 d_st), (cAI g a_from 8 d_from), (cAI g a_begin 8 d_begin), (cAI g a_motor 8 d_motor), (cAI g a_change 8 d_change), (cAI g a_startFrame 8 d_startFrame), (cAI g a_changeFrame 8 d_changeFrame), (cAI g a_lostAt 8 d_lostAt), (cAI g a_blackAt 8 d_blackAt), (cAI g a_slips 8 d_slips), (cO11_i1r1i10r1i2r5i2r12i3r4i2 h0 m_thrown2_1 a_tape m_taped m_size m_at m_end m_token m_whole m_nameSize m_fault m_place m_trouble2_2 a_letters m_failed m_hasHouse a_r a_fresh a_st a_undone a_kept m_undos m_images a_from a_begin a_motor a_change a_startFrame a_changeFrame a_lostAt a_blackAt a_slips a_leftArc a_died a_arcs m_bestSum m_nearest m_nearestTown a_there a_backAt a_sorted a_parts m_seed1 m_darkNow)] rfl ?_
  refine k_iload_n X dX11_all_4 2 rfl ?_
  refine k_iconst (v := 0) X dX11_all_5 (by decide) ?_
  refine k_iconst (v := 3) X dX11_all_6 (by decide) ?_
  refine k_callSI (n := 3) (As := [.int p1, .int 0, .int 3]) (st := []) X [] [(cAI g a_r 311 d_r), (cAI g a_st 44 d_st), (cAI g a_from 8 d_from), (cAI g a_begin 8 d_begin), (cAI g a_motor 8 d_motor), (cAI g a_change 8 d_change), (cAI g a_startFrame 8 d_startFrame), (cAI g a_changeFrame 8 d_changeFrame), (cAI g a_lostAt 8 d_lostAt), (cAI g a_blackAt 8 d_blackAt), (cAI g a_slips 8 d_slips), (cO11_i1r1i10r1i2r5i2r12i3r4i2 h0 m_thrown2_1 a_tape m_taped m_size m_at m_end m_token m_whole m_nameSize m_fault m_place m_trouble2_2 a_letters m_failed m_hasHouse a_r a_fresh a_st a_undone a_kept m_undos m_images a_from a_begin a_motor a_change a_startFrame a_changeFrame a_lostAt a_blackAt a_slips a_leftArc a_died a_arcs m_bestSum m_nearest m_nearestTown a_there a_backAt a_sorted a_parts m_seed1 m_darkNow)] [] [0, 1, 2, 3, 4, 5, 6, 7, 8, 9, 10, 11] (m_in l g p1 0 3) dX11_all_7 mw482 mw483 mw5 mw484 yk_yX11_in_3 rfl (Nat.le_of_ble_eq_true rfl) (Nat.le_of_ble_eq_true rfl) (Nat.le_of_ble_eq_true rfl) (Nat.le_of_ble_eq_true rfl) (Nat.le_of_ble_eq_true rfl) rfl rfl (by decide +kernel) rfl (by decide +kernel) (by decide +kernel) ?_
  rintro r_4 w ⟨iv_5, hk_6, hk_7, rfl⟩
  refine k_ws [(cAI g a_r 311 d_r), (cAI g a_st 44 d_st), (cAI g a_from 8 d_from), (cAI g a_begin 8 d_begin), (cAI g a_motor 8 d_motor), (cAI g a_change 8 d_change), (cAI g a_startFrame 8 d_startFrame), (cAI g a_changeFrame 8 d_changeFrame), (cAI g a_lostAt 8 d_lostAt), (cAI g a_blackAt 8 d_blackAt), (cAI g a_slips 8 d_slips), (cO11_i1r1i10r1i2r5i2r12i3r4i2 h0 m_thrown2_1 a_tape m_taped m_size m_at m_end m_token m_whole m_nameSize m_fault m_place m_trouble2_2 a_letters m_failed m_hasHouse a_r a_fresh a_st a_undone a_kept m_undos m_images a_from a_begin a_motor a_change a_startFrame a_changeFrame a_lostAt a_blackAt a_slips a_leftArc a_died a_arcs m_bestSum m_nearest m_nearestTown a_there a_backAt a_sorted a_parts m_seed1 m_darkNow)] rfl ?_
  refine k_if_eq 30 X dX11_all_10 (by decide) (fun h_8 => ?_) (fun h_8 => ?_)
  · skip
    have iv_9 : IV r_4 0 0 := iv_meet iv_5 (iv_e h_8 (show IV 0 0 0 from (by decide))) (by decide) (by decide)
    have hc_10 := hk_7 (iv_eq iv_9 (show IV 0 0 0 from (by decide)))
    have j_11 : p1.toInt < 0 ∨ 3 < p1.toInt := hc_10
    refine k_aload_n X dX11_all_30 0 rfl ?_
    refine k_iconst (v := 1) X dX11_all_31 (by decide) ?_
    refine k_callVI (n := 1) (As := [.int 1]) (st := []) X [(cO11_i1r1i10r1i2r5i2r12i3r4i2 h0 m_thrown2_1 a_tape m_taped m_size m_at m_end m_token m_whole m_nameSize m_fault m_place m_trouble2_2 a_letters m_failed m_hasHouse a_r a_fresh a_st a_undone a_kept m_undos m_images a_from a_begin a_motor a_change a_startFrame a_changeFrame a_lostAt a_blackAt a_slips a_leftArc a_died a_arcs m_bestSum m_nearest m_nearestTown a_there a_backAt a_sorted a_parts m_seed1 m_darkNow)] [(cAI g a_r 311 d_r), (cAI g a_st 44 d_st), (cAI g a_from 8 d_from), (cAI g a_begin 8 d_begin), (cAI g a_motor 8 d_motor), (cAI g a_change 8 d_change), (cAI g a_startFrame 8 d_startFrame), (cAI g a_changeFrame 8 d_changeFrame), (cAI g a_lostAt 8 d_lostAt), (cAI g a_blackAt 8 d_blackAt), (cAI g a_slips 8 d_slips)] [11] [0, 1, 2, 3, 4, 5, 6, 7, 8, 9, 10] (m_no l g h0 1 m_thrown2_1 a_tape m_taped m_size m_at m_end m_token m_whole m_nameSize m_fault m_place m_trouble2_2 a_letters m_failed m_hasHouse a_r a_fresh a_st a_undone a_kept m_undos m_images a_from a_begin a_motor a_change a_startFrame a_changeFrame a_lostAt a_blackAt a_slips a_leftArc a_died a_arcs m_bestSum m_nearest m_nearestTown a_there a_backAt a_sorted a_parts m_seed1 m_darkNow) dX11_all_32 mw485 mw486 mw487 mw5 mw488 rfl 11 rfl rfl 0 _ rfl yk_yX11_no_1 rfl (Nat.le_of_ble_eq_true rfl) (Nat.le_of_ble_eq_true rfl) (Nat.le_of_ble_eq_true rfl) (Nat.le_of_ble_eq_true rfl) (Nat.le_of_ble_eq_true rfl) rfl rfl (by decide +kernel) rfl (by decide +kernel) (by decide +kernel) ?_
    rintro r_13 w ⟨m_trouble2_12, iv_14, rfl⟩
    refine k_ws [(cAI g a_r 311 d_r), (cAI g a_st 44 d_st), (cAI g a_from 8 d_from), (cAI g a_begin 8 d_begin), (cAI g a_motor 8 d_motor), (cAI g a_change 8 d_change), (cAI g a_startFrame 8 d_startFrame), (cAI g a_changeFrame 8 d_changeFrame), (cAI g a_lostAt 8 d_lostAt), (cAI g a_blackAt 8 d_blackAt), (cAI g a_slips 8 d_slips), (cO11_i1r1i10r1i2r5i2r12i3r4i2 h0 m_thrown2_1 a_tape m_taped m_size m_at m_end m_token m_whole m_nameSize m_fault m_place m_trouble2_12 a_letters m_failed m_hasHouse a_r a_fresh a_st a_undone a_kept m_undos m_images a_from a_begin a_motor a_change a_startFrame a_changeFrame a_lostAt a_blackAt a_slips a_leftArc a_died a_arcs m_bestSum m_nearest m_nearestTown a_there a_backAt a_sorted a_parts m_seed1 m_darkNow)] rfl ?_
    exact k_iret X hr dX11_all_35 (Nat.le_of_ble_eq_true rfl) (Nat.le_of_ble_eq_true rfl) [11, 0, 1, 2, 3, 4, 5, 6, 7, 8, 9, 10] (by decide) rfl rfl ⟨d_begin, d_blackAt, d_change, d_changeFrame, d_from, d_lostAt, d_motor, d_slips, d_startFrame, m_thrown2_1, m_trouble2_12, rfl⟩
  · skip
    have hc_15 := hk_6.resolve_left h_8
    have j_16 : 0 ≤ p1.toInt := hc_15.1
    have iv_17 : IV p1 0 2147483647 := iv_leR hc_15.1 (show IV 0 0 0 from (by decide)) (iv_any p1) (by decide)
    have j_18 : p1.toInt ≤ 3 := hc_15.2
    have iv_19 : IV p1 0 3 := iv_leL hc_15.2 iv_17 (show IV 3 3 3 from (by decide)) (by decide)
    have iv_20 : IV r_4 1 1 := iv_neL h_8 iv_5 (show IV 0 0 0 from (by decide)) (by decide)
    refine k_aload_n X dX11_all_13 0 rfl ?_
    refine k_iload_n X dX11_all_14 1 rfl ?_
    refine k_iconst (v := 0) X dX11_all_15 (by decide) ?_
    refine k_callVI (n := 2) (As := [.int p0, .int 0]) (st := []) X [(cO11_i1r1i10r1i2r5i2r12i3r4i2 h0 m_thrown2_1 a_tape m_taped m_size m_at m_end m_token m_whole m_nameSize m_fault m_place m_trouble2_2 a_letters m_failed m_hasHouse a_r a_fresh a_st a_undone a_kept m_undos m_images a_from a_begin a_motor a_change a_startFrame a_changeFrame a_lostAt a_blackAt a_slips a_leftArc a_died a_arcs m_bestSum m_nearest m_nearestTown a_there a_backAt a_sorted a_parts m_seed1 m_darkNow), (cAI g a_r 311 d_r), (cAI g a_st 44 d_st), (cAI g a_from 8 d_from), (cAI g a_begin 8 d_begin), (cAI g a_motor 8 d_motor), (cAI g a_change 8 d_change), (cAI g a_startFrame 8 d_startFrame), (cAI g a_changeFrame 8 d_changeFrame), (cAI g a_lostAt 8 d_lostAt), (cAI g a_blackAt 8 d_blackAt), (cAI g a_slips 8 d_slips)] [] [11, 0, 1, 2, 3, 4, 5, 6, 7, 8, 9, 10] [] (m_canTell l g h0 p0 0 m_thrown2_1 a_tape m_taped m_size m_at m_end m_token m_whole m_nameSize m_fault m_place m_trouble2_2 a_letters m_failed m_hasHouse a_r a_fresh a_st a_undone a_kept m_undos m_images a_from a_begin a_motor a_change a_startFrame a_changeFrame a_lostAt a_blackAt a_slips a_leftArc a_died a_arcs m_bestSum m_nearest m_nearestTown a_there a_backAt a_sorted a_parts m_seed1 m_darkNow d_r d_st d_from d_begin d_motor d_change d_startFrame d_changeFrame d_lostAt d_blackAt d_slips (iv_w hv_m_hasHouse (by decide) (by decide)) hp_d_r) dX11_all_16 mw807 mw808 mw809 mw5 mw810 rfl 11 rfl rfl 0 _ rfl yk_yX11_canTell_2 rfl (Nat.le_of_ble_eq_true rfl) (Nat.le_of_ble_eq_true rfl) (Nat.le_of_ble_eq_true rfl) (Nat.le_of_ble_eq_true rfl) (Nat.le_of_ble_eq_true rfl) rfl rfl (by decide +kernel) rfl (by decide +kernel) (by decide +kernel) ?_
    intro r_30 w zq
    refine exE9 zq ?_
    clear zq
    intro d_begin2_21 d_blackAt2_22 d_change2_23 d_changeFrame2_24 d_from2_25 d_lostAt2_26 d_motor2_27 d_slips2_28 d_startFrame2_29 iv_31 zq
    refine exA1 zq ?_
    clear zq
    intro hk_32 zq
    subst zq
    refine k_ws [(cO11_i1r1i10r1i2r5i2r12i3r4i2 h0 m_thrown2_1 a_tape m_taped m_size m_at m_end m_token m_whole m_nameSize m_fault m_place m_trouble2_2 a_letters m_failed m_hasHouse a_r a_fresh a_st a_undone a_kept m_undos m_images a_from a_begin a_motor a_change a_startFrame a_changeFrame a_lostAt a_blackAt a_slips a_leftArc a_died a_arcs m_bestSum m_nearest m_nearestTown a_there a_backAt a_sorted a_parts m_seed1 m_darkNow), (cAI g a_r 311 d_r), (cAI g a_st 44 d_st), (cAI g a_from 8 d_from2_25), (cAI g a_begin 8 d_begin2_21), (cAI g a_motor 8 d_motor2_27), (cAI g a_change 8 d_change2_23), (cAI g a_startFrame 8 d_startFrame2_29), (cAI g a_changeFrame 8 d_changeFrame2_24), (cAI g a_lostAt 8 d_lostAt2_26), (cAI g a_blackAt 8 d_blackAt2_22), (cAI g a_slips 8 d_slips2_28)] rfl ?_
    refine k_if_eq 30 X dX11_all_19 (by decide) (fun h_33 => ?_) (fun h_33 => ?_)
    · skip
      have iv_34 : IV r_30 0 0 := iv_meet iv_31 (iv_e h_33 (show IV 0 0 0 from (by decide))) (by decide) (by decide)
      refine k_aload_n X dX11_all_30 0 rfl ?_
      refine k_iconst (v := 1) X dX11_all_31 (by decide) ?_
      refine k_callVI (n := 1) (As := [.int 1]) (st := []) X [(cO11_i1r1i10r1i2r5i2r12i3r4i2 h0 m_thrown2_1 a_tape m_taped m_size m_at m_end m_token m_whole m_nameSize m_fault m_place m_trouble2_2 a_letters m_failed m_hasHouse a_r a_fresh a_st a_undone a_kept m_undos m_images a_from a_begin a_motor a_change a_startFrame a_changeFrame a_lostAt a_blackAt a_slips a_leftArc a_died a_arcs m_bestSum m_nearest m_nearestTown a_there a_backAt a_sorted a_parts m_seed1 m_darkNow)] [(cAI g a_r 311 d_r), (cAI g a_st 44 d_st), (cAI g a_from 8 d_from2_25), (cAI g a_begin 8 d_begin2_21), (cAI g a_motor 8 d_motor2_27), (cAI g a_change 8 d_change2_23), (cAI g a_startFrame 8 d_startFrame2_29), (cAI g a_changeFrame 8 d_changeFrame2_24), (cAI g a_lostAt 8 d_lostAt2_26), (cAI g a_blackAt 8 d_blackAt2_22), (cAI g a_slips 8 d_slips2_28)] [0] [1, 2, 3, 4, 5, 6, 7, 8, 9, 10, 11] (m_no l g h0 1 m_thrown2_1 a_tape m_taped m_size m_at m_end m_token m_whole m_nameSize m_fault m_place m_trouble2_2 a_letters m_failed m_hasHouse a_r a_fresh a_st a_undone a_kept m_undos m_images a_from a_begin a_motor a_change a_startFrame a_changeFrame a_lostAt a_blackAt a_slips a_leftArc a_died a_arcs m_bestSum m_nearest m_nearestTown a_there a_backAt a_sorted a_parts m_seed1 m_darkNow) dX11_all_32 mw485 mw486 mw487 mw5 mw488 rfl 11 rfl rfl 0 _ rfl yk_yX11_no_1 rfl (Nat.le_of_ble_eq_true rfl) (Nat.le_of_ble_eq_true rfl) (Nat.le_of_ble_eq_true rfl) (Nat.le_of_ble_eq_true rfl) (Nat.le_of_ble_eq_true rfl) rfl rfl (by decide +kernel) rfl (by decide +kernel) (by decide +kernel) ?_
      rintro r_36 w ⟨m_trouble2_35, iv_37, rfl⟩
      refine k_ws [(cAI g a_r 311 d_r), (cAI g a_st 44 d_st), (cAI g a_from 8 d_from2_25), (cAI g a_begin 8 d_begin2_21), (cAI g a_motor 8 d_motor2_27), (cAI g a_change 8 d_change2_23), (cAI g a_startFrame 8 d_startFrame2_29), (cAI g a_changeFrame 8 d_changeFrame2_24), (cAI g a_lostAt 8 d_lostAt2_26), (cAI g a_blackAt 8 d_blackAt2_22), (cAI g a_slips 8 d_slips2_28), (cO11_i1r1i10r1i2r5i2r12i3r4i2 h0 m_thrown2_1 a_tape m_taped m_size m_at m_end m_token m_whole m_nameSize m_fault m_place m_trouble2_35 a_letters m_failed m_hasHouse a_r a_fresh a_st a_undone a_kept m_undos m_images a_from a_begin a_motor a_change a_startFrame a_changeFrame a_lostAt a_blackAt a_slips a_leftArc a_died a_arcs m_bestSum m_nearest m_nearestTown a_there a_backAt a_sorted a_parts m_seed1 m_darkNow)] rfl ?_
      exact k_iret X hr dX11_all_35 (Nat.le_of_ble_eq_true rfl) (Nat.le_of_ble_eq_true rfl) [11, 0, 1, 2, 3, 4, 5, 6, 7, 8, 9, 10] (by decide) rfl rfl ⟨d_begin2_21, d_blackAt2_22, d_change2_23, d_changeFrame2_24, d_from2_25, d_lostAt2_26, d_motor2_27, d_slips2_28, d_startFrame2_29, m_thrown2_1, m_trouble2_35, rfl⟩
    · skip
      have hc_38 := hk_32.resolve_left h_33
      have iv_39 : IV p0 0 3 := iv_meet (iv_any p0) hc_38.1 (by decide) (by decide)
      have j_40 : 0 < (d_r 12).toInt := hc_38.2.2
      have iv_41 : IV r_30 1 1 := iv_neL h_33 iv_31 (show IV 0 0 0 from (by decide)) (by decide)
      refine k_aload_n X dX11_all_22 0 rfl ?_
      refine k_iload_n X dX11_all_23 2 rfl ?_
      refine k_callVI (n := 1) (As := [.int p1]) (st := []) X [(cO11_i1r1i10r1i2r5i2r12i3r4i2 h0 m_thrown2_1 a_tape m_taped m_size m_at m_end m_token m_whole m_nameSize m_fault m_place m_trouble2_2 a_letters m_failed m_hasHouse a_r a_fresh a_st a_undone a_kept m_undos m_images a_from a_begin a_motor a_change a_startFrame a_changeFrame a_lostAt a_blackAt a_slips a_leftArc a_died a_arcs m_bestSum m_nearest m_nearestTown a_there a_backAt a_sorted a_parts m_seed1 m_darkNow), (cAI g a_r 311 d_r), (cAI g a_st 44 d_st), (cAI g a_from 8 d_from2_25), (cAI g a_changeFrame 8 d_changeFrame2_24), (cAI g a_lostAt 8 d_lostAt2_26), (cAI g a_blackAt 8 d_blackAt2_22)] [(cAI g a_begin 8 d_begin2_21), (cAI g a_motor 8 d_motor2_27), (cAI g a_change 8 d_change2_23), (cAI g a_startFrame 8 d_startFrame2_29), (cAI g a_slips 8 d_slips2_28)] [0, 1, 2, 3, 8, 9, 10] [4, 5, 6, 7, 11] (m_sumOf l g h0 p1 m_thrown2_1 a_tape m_taped m_size m_at m_end m_token m_whole m_nameSize m_fault m_place m_trouble2_2 a_letters m_failed m_hasHouse a_r a_fresh a_st a_undone a_kept m_undos m_images a_from a_begin a_motor a_change a_startFrame a_changeFrame a_lostAt a_blackAt a_slips a_leftArc a_died a_arcs m_bestSum m_nearest m_nearestTown a_there a_backAt a_sorted a_parts m_seed1 m_darkNow d_r d_st d_from2_25 d_changeFrame2_24 d_lostAt2_26 d_blackAt2_22 hp_d_r) dX11_all_24 mw921 mw922 mw923 mw5 mw924 rfl 11 rfl rfl 0 _ rfl yk_yX11_sumOf_1 rfl (Nat.le_of_ble_eq_true rfl) (Nat.le_of_ble_eq_true rfl) (Nat.le_of_ble_eq_true rfl) (Nat.le_of_ble_eq_true rfl) (Nat.le_of_ble_eq_true rfl) rfl rfl (by decide +kernel) rfl (by decide +kernel) (by decide +kernel) ?_
      rintro r_42 w rfl
      refine k_ws [(cAI g a_begin 8 d_begin2_21), (cAI g a_motor 8 d_motor2_27), (cAI g a_change 8 d_change2_23), (cAI g a_startFrame 8 d_startFrame2_29), (cAI g a_slips 8 d_slips2_28), (cO11_i1r1i10r1i2r5i2r12i3r4i2 h0 m_thrown2_1 a_tape m_taped m_size m_at m_end m_token m_whole m_nameSize m_fault m_place m_trouble2_2 a_letters m_failed m_hasHouse a_r a_fresh a_st a_undone a_kept m_undos m_images a_from a_begin a_motor a_change a_startFrame a_changeFrame a_lostAt a_blackAt a_slips a_leftArc a_died a_arcs m_bestSum m_nearest m_nearestTown a_there a_backAt a_sorted a_parts m_seed1 m_darkNow), (cAI g a_r 311 d_r), (cAI g a_st 44 d_st), (cAI g a_from 8 d_from2_25), (cAI g a_changeFrame 8 d_changeFrame2_24), (cAI g a_lostAt 8 d_lostAt2_26), (cAI g a_blackAt 8 d_blackAt2_22)] rfl ?_
      refine k_goto 35 X dX11_all_27 (by decide) ?_
      exact k_iret X hr dX11_all_35 (Nat.le_of_ble_eq_true rfl) (Nat.le_of_ble_eq_true rfl) [5, 6, 7, 8, 0, 1, 2, 3, 9, 10, 11, 4] (by decide) rfl rfl ⟨d_begin2_21, d_blackAt2_22, d_change2_23, d_changeFrame2_24, d_from2_25, d_lostAt2_26, d_motor2_27, d_slips2_28, d_startFrame2_29, m_thrown2_1, m_trouble2_2, rfl⟩

theorem dX11_worst_0 : decode cX11_worst 0 = .ok (.aload_n 0, 1) := dk_42 rfl
theorem dX11_worst_1 : decode cX11_worst 1 = .ok (.invokevirtual 200, 3) := dk_182 rfl rfl rfl rfl
theorem dX11_worst_4 : decode cX11_worst 4 = .ok (.aload_n 0, 1) := dk_42 rfl
theorem dX11_worst_5 : decode cX11_worst 5 = .ok (.iload_n 1, 1) := dk_27 rfl
theorem dX11_worst_6 : decode cX11_worst 6 = .ok (.iconst 0, 1) := dk_3 rfl
theorem dX11_worst_7 : decode cX11_worst 7 = .ok (.invokevirtual 376, 3) := dk_182 rfl rfl rfl rfl
theorem dX11_worst_10 : decode cX11_worst 10 = .ok (.ifCond .ne 9, 3) := dk_154 rfl rfl rfl (by decide)
theorem dX11_worst_13 : decode cX11_worst 13 = .ok (.aload_n 0, 1) := dk_42 rfl
theorem dX11_worst_14 : decode cX11_worst 14 = .ok (.iconst 1, 1) := dk_4 rfl
theorem dX11_worst_15 : decode cX11_worst 15 = .ok (.invokevirtual 203, 3) := dk_182 rfl rfl rfl rfl
theorem dX11_worst_18 : decode cX11_worst 18 = .ok (.ireturn, 1) := dk_172 rfl
theorem dX11_worst_19 : decode cX11_worst 19 = .ok (.iconst (-1), 1) := dk_2 rfl
theorem dX11_worst_20 : decode cX11_worst 20 = .ok (.istore_n 2, 1) := dk_61 rfl
theorem dX11_worst_21 : decode cX11_worst 21 = .ok (.iconst (-1), 1) := dk_2 rfl
theorem dX11_worst_22 : decode cX11_worst 22 = .ok (.istore_n 3, 1) := dk_62 rfl
theorem dX11_worst_23 : decode cX11_worst 23 = .ok (.iconst 1, 1) := dk_4 rfl
theorem dX11_worst_24 : decode cX11_worst 24 = .ok (.istore 4, 2) := dk_54 rfl rfl rfl
theorem dX11_worst_26 : decode cX11_worst 26 = .ok (.iload 4, 2) := dk_21 rfl rfl rfl
theorem dX11_worst_28 : decode cX11_worst 28 = .ok (.aload_n 0, 1) := dk_42 rfl
theorem dX11_worst_29 : decode cX11_worst 29 = .ok (.getfield 20, 3) := dk_180 rfl rfl rfl rfl
theorem dX11_worst_32 : decode cX11_worst 32 = .ok (.bipush 12, 2) := dk_16 rfl rfl (by decide)
theorem dX11_worst_34 : decode cX11_worst 34 = .ok (.iaload, 1) := dk_46 rfl
theorem dX11_worst_35 : decode cX11_worst 35 = .ok (.if_icmp .ge 50, 3) := dk_162 rfl rfl rfl (by decide)
theorem dX11_worst_38 : decode cX11_worst 38 = .ok (.aload_n 0, 1) := dk_42 rfl
theorem dX11_worst_39 : decode cX11_worst 39 = .ok (.getfield 53, 3) := dk_180 rfl rfl rfl rfl
theorem dX11_worst_42 : decode cX11_worst 42 = .ok (.iload 4, 2) := dk_21 rfl rfl rfl
theorem dX11_worst_44 : decode cX11_worst 44 = .ok (.iaload, 1) := dk_46 rfl
theorem dX11_worst_45 : decode cX11_worst 45 = .ok (.aload_n 0, 1) := dk_42 rfl
theorem dX11_worst_46 : decode cX11_worst 46 = .ok (.getfield 56, 3) := dk_180 rfl rfl rfl rfl
theorem dX11_worst_49 : decode cX11_worst 49 = .ok (.iload 4, 2) := dk_21 rfl rfl rfl
theorem dX11_worst_51 : decode cX11_worst 51 = .ok (.iaload, 1) := dk_46 rfl
theorem dX11_worst_52 : decode cX11_worst 52 = .ok (.iadd, 1) := dk_96 rfl
theorem dX11_worst_53 : decode cX11_worst 53 = .ok (.aload_n 0, 1) := dk_42 rfl
theorem dX11_worst_54 : decode cX11_worst 54 = .ok (.iload 4, 2) := dk_21 rfl rfl rfl
theorem dX11_worst_56 : decode cX11_worst 56 = .ok (.iconst 1, 1) := dk_4 rfl
theorem dX11_worst_57 : decode cX11_worst 57 = .ok (.isub, 1) := dk_100 rfl
theorem dX11_worst_58 : decode cX11_worst 58 = .ok (.invokevirtual 379, 3) := dk_182 rfl rfl rfl rfl
theorem dX11_worst_61 : decode cX11_worst 61 = .ok (.iadd, 1) := dk_96 rfl
theorem dX11_worst_62 : decode cX11_worst 62 = .ok (.istore 5, 2) := dk_54 rfl rfl rfl
theorem dX11_worst_64 : decode cX11_worst 64 = .ok (.iload 5, 2) := dk_21 rfl rfl rfl
theorem dX11_worst_66 : decode cX11_worst 66 = .ok (.iload_n 3, 1) := dk_29 rfl
theorem dX11_worst_67 : decode cX11_worst 67 = .ok (.if_icmp .gt 6, 3) := dk_163 rfl rfl rfl (by decide)
theorem dX11_worst_70 : decode cX11_worst 70 = .ok (.goto 9, 3) := dk_167 rfl rfl rfl (by decide)
theorem dX11_worst_73 : decode cX11_worst 73 = .ok (.iload 4, 2) := dk_21 rfl rfl rfl
theorem dX11_worst_75 : decode cX11_worst 75 = .ok (.istore_n 2, 1) := dk_61 rfl
theorem dX11_worst_76 : decode cX11_worst 76 = .ok (.iload 5, 2) := dk_21 rfl rfl rfl
theorem dX11_worst_78 : decode cX11_worst 78 = .ok (.istore_n 3, 1) := dk_62 rfl
theorem dX11_worst_79 : decode cX11_worst 79 = .ok (.iinc 4 1, 3) := dk_132 rfl rfl rfl rfl (by decide)
theorem dX11_worst_82 : decode cX11_worst 82 = .ok (.goto (-56), 3) := dk_167 rfl rfl rfl (by decide)
theorem dX11_worst_85 : decode cX11_worst 85 = .ok (.iload_n 2, 1) := dk_28 rfl
theorem dX11_worst_86 : decode cX11_worst 86 = .ok (.ireturn, 1) := dk_172 rfl
set_option maxHeartbeats 4000000 in
set_option maxRecDepth 100000 in
theorem m_worst (l : Launch) (g : Gx) (h0 : Nat) (p0 : Int32) (m_thrown : Int32) (a_tape : Nat) (m_taped : Int32) (m_size : Int32) (m_at : Int32) (m_end : Int32) (m_token : Int32) (m_whole : Int32) (m_nameSize : Int32) (m_fault : Int32) (m_place : Int32) (m_trouble : Int32) (a_letters : Nat) (m_failed : Int32) (m_hasHouse : Int32) (a_r : Nat) (a_fresh : Nat) (a_st : Nat) (a_undone : Nat) (a_kept : Nat) (m_undos : Int32) (m_images : Int32) (a_from : Nat) (a_begin : Nat) (a_motor : Nat) (a_change : Nat) (a_startFrame : Nat) (a_changeFrame : Nat) (a_lostAt : Nat) (a_blackAt : Nat) (a_slips : Nat) (a_leftArc : Nat) (a_died : Nat) (a_arcs : Nat) (m_bestSum : Int32) (m_nearest : Int32) (m_nearestTown : Int32) (a_there : Nat) (a_backAt : Nat) (a_sorted : Nat) (a_parts : Nat) (m_seed1 : Int32) (m_darkNow : Int32) (d_r : Nat → Int32) (d_st : Nat → Int32) (d_from : Nat → Int32) (d_begin : Nat → Int32) (d_motor : Nat → Int32) (d_change : Nat → Int32) (d_startFrame : Nat → Int32) (d_changeFrame : Nat → Int32) (d_lostAt : Nat → Int32) (d_blackAt : Nat → Int32) (d_slips : Nat → Int32) (hv_m_hasHouse : IV m_hasHouse 0 1) (hp_d_r : RInv d_r) : cI l g yX11_worst cX11_worst 6 (some .int) 6 132 0 0 [.ref h0, .int p0] [(cO11_i1r1i10r1i2r5i2r12i3r4i2 h0 m_thrown a_tape m_taped m_size m_at m_end m_token m_whole m_nameSize m_fault m_place m_trouble a_letters m_failed m_hasHouse a_r a_fresh a_st a_undone a_kept m_undos m_images a_from a_begin a_motor a_change a_startFrame a_changeFrame a_lostAt a_blackAt a_slips a_leftArc a_died a_arcs m_bestSum m_nearest m_nearestTown a_there a_backAt a_sorted a_parts m_seed1 m_darkNow), (cAI g a_r 311 d_r), (cAI g a_st 44 d_st), (cAI g a_from 8 d_from), (cAI g a_begin 8 d_begin), (cAI g a_motor 8 d_motor), (cAI g a_change 8 d_change), (cAI g a_startFrame 8 d_startFrame), (cAI g a_changeFrame 8 d_changeFrame), (cAI g a_lostAt 8 d_lostAt), (cAI g a_blackAt 8 d_blackAt), (cAI g a_slips 8 d_slips)] (fun r w => ∃ (d_begin2 : Nat → Int32) (d_blackAt2 : Nat → Int32) (d_change2 : Nat → Int32) (d_changeFrame2 : Nat → Int32) (d_from2 : Nat → Int32) (d_lostAt2 : Nat → Int32) (d_motor2 : Nat → Int32) (d_slips2 : Nat → Int32) (d_startFrame2 : Nat → Int32) (m_thrown2 : Int32) (m_trouble2 : Int32), w = [(cO11_i1r1i10r1i2r5i2r12i3r4i2 h0 m_thrown2 a_tape m_taped m_size m_at m_end m_token m_whole m_nameSize m_fault m_place m_trouble2 a_letters m_failed m_hasHouse a_r a_fresh a_st a_undone a_kept m_undos m_images a_from a_begin a_motor a_change a_startFrame a_changeFrame a_lostAt a_blackAt a_slips a_leftArc a_died a_arcs m_bestSum m_nearest m_nearestTown a_there a_backAt a_sorted a_parts m_seed1 m_darkNow), (cAI g a_r 311 d_r), (cAI g a_st 44 d_st), (cAI g a_from 8 d_from2), (cAI g a_begin 8 d_begin2), (cAI g a_motor 8 d_motor2), (cAI g a_change 8 d_change2), (cAI g a_startFrame 8 d_startFrame2), (cAI g a_changeFrame 8 d_changeFrame2), (cAI g a_lostAt 8 d_lostAt2), (cAI g a_blackAt 8 d_blackAt2), (cAI g a_slips 8 d_slips2)]) := by
  refine cI.of (by decide) (Nat.le_of_ble_eq_true rfl) ?_
  intro p e s m args below meth c A X hr hi
  refine k_lveq [(0, .ref h0), (1, .int p0)] rfl ?_
  refine k_aload_n X dX11_worst_0 0 rfl ?_
  refine k_callVV (n := 0) (As := []) (st := []) X [(cO11_i1r1i10r1i2r5i2r12i3r4i2 h0 m_thrown a_tape m_taped m_size m_at m_end m_token m_whole m_nameSize m_fault m_place m_trouble a_letters m_failed m_hasHouse a_r a_fresh a_st a_undone a_kept m_undos m_images a_from a_begin a_motor a_change a_startFrame a_changeFrame a_lostAt a_blackAt a_slips a_leftArc a_died a_arcs m_bestSum m_nearest m_nearestTown a_there a_backAt a_sorted a_parts m_seed1 m_darkNow)] [(cAI g a_r 311 d_r), (cAI g a_st 44 d_st), (cAI g a_from 8 d_from), (cAI g a_begin 8 d_begin), (cAI g a_motor 8 d_motor), (cAI g a_change 8 d_change), (cAI g a_startFrame 8 d_startFrame), (cAI g a_changeFrame 8 d_changeFrame), (cAI g a_lostAt 8 d_lostAt), (cAI g a_blackAt 8 d_blackAt), (cAI g a_slips 8 d_slips)] [0] [1, 2, 3, 4, 5, 6, 7, 8, 9, 10, 11] (m_good l g h0 m_thrown a_tape m_taped m_size m_at m_end m_token m_whole m_nameSize m_fault m_place m_trouble a_letters m_failed m_hasHouse a_r a_fresh a_st a_undone a_kept m_undos m_images a_from a_begin a_motor a_change a_startFrame a_changeFrame a_lostAt a_blackAt a_slips a_leftArc a_died a_arcs m_bestSum m_nearest m_nearestTown a_there a_backAt a_sorted a_parts m_seed1 m_darkNow) dX11_worst_1 mw477 mw478 mw479 mw5 mw480 rfl 11 rfl rfl 0 _ rfl yk_yX11_good_0 rfl (Nat.le_of_ble_eq_true rfl) (Nat.le_of_ble_eq_true rfl) (Nat.le_of_ble_eq_true rfl) (Nat.le_of_ble_eq_true rfl) (Nat.le_of_ble_eq_true rfl) rfl rfl (by decide +kernel) rfl (by decide +kernel) (by decide +kernel) ?_
  rintro w ⟨m_thrown2_1, m_trouble2_2, rfl⟩
  refine k_ws [(cAI g a_r 311 d_r), (cAI g a_st 44 d_st), (cAI g a_from 8 d_from), (cAI g a_begin 8 d_begin), (cAI g a_motor 8 d_motor), (cAI g a_change 8 d_change), (cAI g a_startFrame 8 d_startFrame), (cAI g a_changeFrame 8 d_changeFrame), (cAI g a_lostAt 8 d_lostAt), (cAI g a_blackAt 8 d_blackAt), (cAI g a_slips 8 d_slips), (cO11_i1r1i10r1i2r5i2r12i3r4i2 h0 m_thrown2_1 a_tape m_taped m_size m_at m_end m_token m_whole m_nameSize m_fault m_place m_trouble2_2 a_letters m_failed m_hasHouse a_r a_fresh a_st a_undone a_kept m_undos m_images a_from a_begin a_motor a_change a_startFrame a_changeFrame a_lostAt a_blackAt a_slips a_leftArc a_died a_arcs m_bestSum m_nearest m_nearestTown a_there a_backAt a_sorted a_parts m_seed1 m_darkNow)] rfl ?_
  refine k_aload_n X dX11_worst_4 0 rfl ?_
  refine k_iload_n X dX11_worst_5 1 rfl ?_
  refine k_iconst (v := 0) X dX11_worst_6 (by decide) ?_
  refine k_callVI (n := 2) (As := [.int p0, .int 0]) (st := []) X [(cO11_i1r1i10r1i2r5i2r12i3r4i2 h0 m_thrown2_1 a_tape m_taped m_size m_at m_end m_token m_whole m_nameSize m_fault m_place m_trouble2_2 a_letters m_failed m_hasHouse a_r a_fresh a_st a_undone a_kept m_undos m_images a_from a_begin a_motor a_change a_startFrame a_changeFrame a_lostAt a_blackAt a_slips a_leftArc a_died a_arcs m_bestSum m_nearest m_nearestTown a_there a_backAt a_sorted a_parts m_seed1 m_darkNow), (cAI g a_r 311 d_r), (cAI g a_st 44 d_st), (cAI g a_from 8 d_from), (cAI g a_begin 8 d_begin), (cAI g a_motor 8 d_motor), (cAI g a_change 8 d_change), (cAI g a_startFrame 8 d_startFrame), (cAI g a_changeFrame 8 d_changeFrame), (cAI g a_lostAt 8 d_lostAt), (cAI g a_blackAt 8 d_blackAt), (cAI g a_slips 8 d_slips)] [] [11, 0, 1, 2, 3, 4, 5, 6, 7, 8, 9, 10] [] (m_canTell l g h0 p0 0 m_thrown2_1 a_tape m_taped m_size m_at m_end m_token m_whole m_nameSize m_fault m_place m_trouble2_2 a_letters m_failed m_hasHouse a_r a_fresh a_st a_undone a_kept m_undos m_images a_from a_begin a_motor a_change a_startFrame a_changeFrame a_lostAt a_blackAt a_slips a_leftArc a_died a_arcs m_bestSum m_nearest m_nearestTown a_there a_backAt a_sorted a_parts m_seed1 m_darkNow d_r d_st d_from d_begin d_motor d_change d_startFrame d_changeFrame d_lostAt d_blackAt d_slips (iv_w hv_m_hasHouse (by decide) (by decide)) hp_d_r) dX11_worst_7 mw807 mw808 mw809 mw5 mw810 rfl 11 rfl rfl 0 _ rfl yk_yX11_canTell_2 rfl (Nat.le_of_ble_eq_true rfl) (Nat.le_of_ble_eq_true rfl) (Nat.le_of_ble_eq_true rfl) (Nat.le_of_ble_eq_true rfl) (Nat.le_of_ble_eq_true rfl) rfl rfl (by decide +kernel) rfl (by decide +kernel) (by decide +kernel) ?_
  intro r_13 w zq
  refine exE9 zq ?_
  clear zq
  intro d_begin2_4 d_blackAt2_5 d_change2_6 d_changeFrame2_7 d_from2_8 d_lostAt2_9 d_motor2_10 d_slips2_11 d_startFrame2_12 iv_14 zq
  refine exA1 zq ?_
  clear zq
  intro hk_15 zq
  subst zq
  refine k_ws [(cO11_i1r1i10r1i2r5i2r12i3r4i2 h0 m_thrown2_1 a_tape m_taped m_size m_at m_end m_token m_whole m_nameSize m_fault m_place m_trouble2_2 a_letters m_failed m_hasHouse a_r a_fresh a_st a_undone a_kept m_undos m_images a_from a_begin a_motor a_change a_startFrame a_changeFrame a_lostAt a_blackAt a_slips a_leftArc a_died a_arcs m_bestSum m_nearest m_nearestTown a_there a_backAt a_sorted a_parts m_seed1 m_darkNow), (cAI g a_r 311 d_r), (cAI g a_st 44 d_st), (cAI g a_from 8 d_from2_8), (cAI g a_begin 8 d_begin2_4), (cAI g a_motor 8 d_motor2_10), (cAI g a_change 8 d_change2_6), (cAI g a_startFrame 8 d_startFrame2_12), (cAI g a_changeFrame 8 d_changeFrame2_7), (cAI g a_lostAt 8 d_lostAt2_9), (cAI g a_blackAt 8 d_blackAt2_5), (cAI g a_slips 8 d_slips2_11)] rfl ?_
  refine k_if_ne 19 X dX11_worst_10 (by decide) (fun h_16 => ?_) (fun h_16 => ?_)
  · skip
    have hc_17 := hk_15.resolve_left h_16
    have iv_18 : IV p0 0 3 := iv_meet (iv_any p0) hc_17.1 (by decide) (by decide)
    have j_19 : 0 < (d_r 12).toInt := hc_17.2.2
    have iv_20 : IV r_13 1 1 := iv_neL h_16 iv_14 (show IV 0 0 0 from (by decide)) (by decide)
    refine k_iconst (v := -1) X dX11_worst_19 (by decide) ?_
    refine k_istore_n [(2, .int (-1)), (0, .ref h0), (1, .int p0)] X dX11_worst_20 (by decide) rfl ?_
    refine k_iconst (v := -1) X dX11_worst_21 (by decide) ?_
    refine k_istore_n [(3, .int (-1)), (2, .int (-1)), (0, .ref h0), (1, .int p0)] X dX11_worst_22 (by decide) rfl ?_
    refine k_iconst (v := 1) X dX11_worst_23 (by decide) ?_
    refine k_istore [(4, .int 1), (3, .int (-1)), (2, .int (-1)), (0, .ref h0), (1, .int p0)] X dX11_worst_24 (by decide) rfl ?_
    refine (fun hL : ∀ (nn_27 : Nat) (u_21 : Int32) (u_23 : Int32) (u_25 : Int32), (2147483647 - u_25.toInt).toNat = nn_27 → (IV u_21 (-1) 8) → (IV u_23 (-1) 2147483647) → (IV u_25 1 8) → Wk p l e _ s m args below meth c _ A g _ _ _ [(cO11_i1r1i10r1i2r5i2r12i3r4i2 h0 m_thrown2_1 a_tape m_taped m_size m_at m_end m_token m_whole m_nameSize m_fault m_place m_trouble2_2 a_letters m_failed m_hasHouse a_r a_fresh a_st a_undone a_kept m_undos m_images a_from a_begin a_motor a_change a_startFrame a_changeFrame a_lostAt a_blackAt a_slips a_leftArc a_died a_arcs m_bestSum m_nearest m_nearestTown a_there a_backAt a_sorted a_parts m_seed1 m_darkNow), (cAI g a_r 311 d_r), (cAI g a_st 44 d_st), (cAI g a_from 8 d_from2_8), (cAI g a_begin 8 d_begin2_4), (cAI g a_motor 8 d_motor2_10), (cAI g a_change 8 d_change2_6), (cAI g a_startFrame 8 d_startFrame2_12), (cAI g a_changeFrame 8 d_changeFrame2_7), (cAI g a_lostAt 8 d_lostAt2_9), (cAI g a_blackAt 8 d_blackAt2_5), (cAI g a_slips 8 d_slips2_11)] [(4, .int u_25), (3, .int u_23), (2, .int u_21), (0, .ref h0), (1, .int p0)] 26 [] => hL _ ((-1)) ((-1)) 1 rfl (iv_w (show IV (-1) (-1) (-1) from (by decide)) (by decide) (by decide)) (iv_w (show IV (-1) (-1) (-1) from (by decide)) (by decide) (by decide)) (iv_w (show IV 1 1 1 from (by decide)) (by decide) (by decide))) ?_
    refine fun nn_27 => Nat.strongRecOn nn_27 (fun nn_27 ih_29 => ?_)
    intro u_21 u_23 u_25 hm_28 hv_22 hv_24 hv_26
    refine k_iload X dX11_worst_26 0 rfl ?_
    refine k_aload_n X dX11_worst_28 3 rfl ?_
    refine k_get (ci := 11) X inlX11 rfl 15 (by decide) dX11_worst_29 mw170 0 rfl rfl ?_
    refine k_bipush (v := 12) X dX11_worst_32 (by decide) ?_
    refine k_iald X dX11_worst_34 1 rfl (by unfold vp_in; decide) ?_
    refine k_nm (fun z_30 ez_30 => ?_)
    have i_31 : z_30.toInt = (d_r 12).toInt := by rw [ez_30]; rfl
    have iv_32 : IV z_30 0 8 := rb_12 ez_30 hp_d_r
    refine k_ic_ge 85 X dX11_worst_35 (by decide) (fun h_33 => ?_) (fun h_33 => ?_)
    · skip
      have j_34 : z_30.toInt ≤ u_25.toInt := iv_le h_33
      refine k_iload_n X dX11_worst_85 2 rfl ?_
      exact k_iret X hr dX11_worst_86 (Nat.le_of_ble_eq_true rfl) (Nat.le_of_ble_eq_true rfl) [0, 1, 2, 3, 4, 5, 6, 7, 8, 9, 10, 11] (by decide) rfl rfl ⟨d_begin2_4, d_blackAt2_5, d_change2_6, d_changeFrame2_7, d_from2_8, d_lostAt2_9, d_motor2_10, d_slips2_11, d_startFrame2_12, m_thrown2_1, m_trouble2_2, rfl⟩
    · skip
      have j_35 : u_25.toInt < z_30.toInt := iv_nle h_33
      have iv_36 : IV u_25 1 7 := iv_ltL (iv_nle h_33) hv_26 iv_32 (by decide)
      have iv_37 : IV z_30 2 8 := iv_ltR (iv_nle h_33) hv_26 iv_32 (by decide)
      refine k_aload_n X dX11_worst_38 3 rfl ?_
      refine k_get (ci := 11) X inlX11 rfl 28 (by decide) dX11_worst_39 mw181 0 rfl rfl ?_
      refine k_iload X dX11_worst_42 0 rfl ?_
      refine k_iald X dX11_worst_44 9 rfl (iv_in iv_36 (by decide) (by decide)) ?_
      refine k_nm (fun z_38 ez_38 => ?_)
      refine k_aload_n X dX11_worst_45 3 rfl ?_
      refine k_get (ci := 11) X inlX11 rfl 29 (by decide) dX11_worst_46 mw182 0 rfl rfl ?_
      refine k_iload X dX11_worst_49 0 rfl ?_
      refine k_iald X dX11_worst_51 10 rfl (iv_in iv_36 (by decide) (by decide)) ?_
      refine k_nm (fun z_39 ez_39 => ?_)
      refine k_iadd X dX11_worst_52 ?_
      refine k_nm (fun z_40 ez_40 => ?_)
      refine k_aload_n X dX11_worst_53 3 rfl ?_
      refine k_iload X dX11_worst_54 0 rfl ?_
      refine k_iconst (v := 1) X dX11_worst_56 (by decide) ?_
      refine k_isub X dX11_worst_57 ?_
      refine k_nm (fun z_42 ez_42 => ?_)
      have i_43 : z_42.toInt = u_25.toInt - 1 := in_sub ez_42 iv_36 (show IV 1 1 1 from (by decide)) (by decide) (by decide)
      have iv_44 : IV z_42 0 6 := iz5 i_43 iv_36 (by decide) (by decide)
      refine k_callVI (n := 1) (As := [.int z_42]) (st := [.int z_40]) X [(cO11_i1r1i10r1i2r5i2r12i3r4i2 h0 m_thrown2_1 a_tape m_taped m_size m_at m_end m_token m_whole m_nameSize m_fault m_place m_trouble2_2 a_letters m_failed m_hasHouse a_r a_fresh a_st a_undone a_kept m_undos m_images a_from a_begin a_motor a_change a_startFrame a_changeFrame a_lostAt a_blackAt a_slips a_leftArc a_died a_arcs m_bestSum m_nearest m_nearestTown a_there a_backAt a_sorted a_parts m_seed1 m_darkNow), (cAI g a_r 311 d_r), (cAI g a_st 44 d_st), (cAI g a_from 8 d_from2_8), (cAI g a_changeFrame 8 d_changeFrame2_7)] [(cAI g a_begin 8 d_begin2_4), (cAI g a_motor 8 d_motor2_10), (cAI g a_change 8 d_change2_6), (cAI g a_startFrame 8 d_startFrame2_12), (cAI g a_lostAt 8 d_lostAt2_9), (cAI g a_blackAt 8 d_blackAt2_5), (cAI g a_slips 8 d_slips2_11)] [0, 1, 2, 3, 8] [4, 5, 6, 7, 9, 10, 11] (m_tailOf l g h0 z_42 m_thrown2_1 a_tape m_taped m_size m_at m_end m_token m_whole m_nameSize m_fault m_place m_trouble2_2 a_letters m_failed m_hasHouse a_r a_fresh a_st a_undone a_kept m_undos m_images a_from a_begin a_motor a_change a_startFrame a_changeFrame a_lostAt a_blackAt a_slips a_leftArc a_died a_arcs m_bestSum m_nearest m_nearestTown a_there a_backAt a_sorted a_parts m_seed1 m_darkNow d_r d_st d_from2_8 d_changeFrame2_7 (iv_w iv_44 (by decide) (by decide)) hp_d_r) dX11_worst_58 mw885 mw886 mw887 mw5 mw888 rfl 11 rfl rfl 0 _ rfl yk_yX11_tailOf_1 rfl (Nat.le_of_ble_eq_true rfl) (Nat.le_of_ble_eq_true rfl) (Nat.le_of_ble_eq_true rfl) (Nat.le_of_ble_eq_true rfl) (Nat.le_of_ble_eq_true rfl) rfl rfl (by decide +kernel) rfl (by decide +kernel) (by decide +kernel) ?_
      rintro r_45 w rfl
      refine k_ws [(cAI g a_begin 8 d_begin2_4), (cAI g a_motor 8 d_motor2_10), (cAI g a_change 8 d_change2_6), (cAI g a_startFrame 8 d_startFrame2_12), (cAI g a_lostAt 8 d_lostAt2_9), (cAI g a_blackAt 8 d_blackAt2_5), (cAI g a_slips 8 d_slips2_11), (cO11_i1r1i10r1i2r5i2r12i3r4i2 h0 m_thrown2_1 a_tape m_taped m_size m_at m_end m_token m_whole m_nameSize m_fault m_place m_trouble2_2 a_letters m_failed m_hasHouse a_r a_fresh a_st a_undone a_kept m_undos m_images a_from a_begin a_motor a_change a_startFrame a_changeFrame a_lostAt a_blackAt a_slips a_leftArc a_died a_arcs m_bestSum m_nearest m_nearestTown a_there a_backAt a_sorted a_parts m_seed1 m_darkNow), (cAI g a_r 311 d_r), (cAI g a_st 44 d_st), (cAI g a_from 8 d_from2_8), (cAI g a_changeFrame 8 d_changeFrame2_7)] rfl ?_
      refine k_iadd X dX11_worst_61 ?_
      refine k_nm (fun z_46 ez_46 => ?_)
      refine k_istore [(5, .int z_46), (4, .int u_25), (3, .int u_23), (2, .int u_21), (0, .ref h0), (1, .int p0)] X dX11_worst_62 (by decide) rfl ?_
      refine k_iload X dX11_worst_64 0 rfl ?_
      refine k_iload_n X dX11_worst_66 2 rfl ?_
      refine k_ic_gt 73 X dX11_worst_67 (by decide) (fun h_48 => ?_) (fun h_48 => ?_)
      · skip
        have j_49 : u_23.toInt < z_46.toInt := iv_lt h_48
        have iv_50 : IV u_23 (-1) 2147483646 := iv_ltL (iv_lt h_48) hv_24 (iv_any z_46) (by decide)
        have iv_51 : IV z_46 0 2147483647 := iv_ltR (iv_lt h_48) hv_24 (iv_any z_46) (by decide)
        refine k_iload X dX11_worst_73 1 rfl ?_
        refine k_istore_n [(2, .int u_25), (5, .int z_46), (4, .int u_25), (3, .int u_23), (0, .ref h0), (1, .int p0)] X dX11_worst_75 (by decide) rfl ?_
        refine k_iload X dX11_worst_76 1 rfl ?_
        refine k_istore_n [(3, .int z_46), (2, .int u_25), (5, .int z_46), (4, .int u_25), (0, .ref h0), (1, .int p0)] X dX11_worst_78 (by decide) rfl ?_
        obtain ⟨z_52, ez_52⟩ : ∃ y : Int32, u_25 + Int32.ofInt 1 = y := ⟨_, rfl⟩
        refine k_iinc z_52 [(4, .int z_52), (3, .int z_46), (2, .int u_25), (5, .int z_46), (0, .ref h0), (1, .int p0)] 3 X dX11_worst_79 rfl ez_52 (by decide) rfl ?_
        have i_53 : z_52.toInt = u_25.toInt + 1 := in_inc ez_52 (by decide) iv_36 (by decide) (by decide)
        have iv_54 : IV z_52 2 8 := iz1 i_53 iv_36 (by decide) (by decide)
        refine k_goto 26 X dX11_worst_82 (by decide) ?_
        refine k_lv [(4, .int z_52), (3, .int z_46), (2, .int u_25), (0, .ref h0), (1, .int p0)] [0, 1, 2, 4, 5] rfl ?_
        refine k_sub [(cO11_i1r1i10r1i2r5i2r12i3r4i2 h0 m_thrown2_1 a_tape m_taped m_size m_at m_end m_token m_whole m_nameSize m_fault m_place m_trouble2_2 a_letters m_failed m_hasHouse a_r a_fresh a_st a_undone a_kept m_undos m_images a_from a_begin a_motor a_change a_startFrame a_changeFrame a_lostAt a_blackAt a_slips a_leftArc a_died a_arcs m_bestSum m_nearest m_nearestTown a_there a_backAt a_sorted a_parts m_seed1 m_darkNow), (cAI g a_r 311 d_r), (cAI g a_st 44 d_st), (cAI g a_from 8 d_from2_8), (cAI g a_begin 8 d_begin2_4), (cAI g a_motor 8 d_motor2_10), (cAI g a_change 8 d_change2_6), (cAI g a_startFrame 8 d_startFrame2_12), (cAI g a_changeFrame 8 d_changeFrame2_7), (cAI g a_lostAt 8 d_lostAt2_9), (cAI g a_blackAt 8 d_blackAt2_5), (cAI g a_slips 8 d_slips2_11)] [7, 8, 9, 10, 0, 1, 2, 3, 11, 4, 5, 6] rfl (by decide) rfl ?_
        exact ih_29 _ (by omega) u_25 z_46 z_52 rfl (iv_w iv_36 (by decide) (by decide)) (iv_w iv_51 (by decide) (by decide)) (iv_w iv_54 (by decide) (by decide))
      · skip
        have j_55 : z_46.toInt ≤ u_23.toInt := iv_nlt h_48
        refine k_goto 79 X dX11_worst_70 (by decide) ?_
        obtain ⟨z_56, ez_56⟩ : ∃ y : Int32, u_25 + Int32.ofInt 1 = y := ⟨_, rfl⟩
        refine k_iinc z_56 [(4, .int z_56), (5, .int z_46), (3, .int u_23), (2, .int u_21), (0, .ref h0), (1, .int p0)] 1 X dX11_worst_79 rfl ez_56 (by decide) rfl ?_
        have i_57 : z_56.toInt = u_25.toInt + 1 := in_inc ez_56 (by decide) iv_36 (by decide) (by decide)
        have iv_58 : IV z_56 2 8 := iz1 i_57 iv_36 (by decide) (by decide)
        refine k_goto 26 X dX11_worst_82 (by decide) ?_
        refine k_lv [(4, .int z_56), (3, .int u_23), (2, .int u_21), (0, .ref h0), (1, .int p0)] [0, 2, 3, 4, 5] rfl ?_
        refine k_sub [(cO11_i1r1i10r1i2r5i2r12i3r4i2 h0 m_thrown2_1 a_tape m_taped m_size m_at m_end m_token m_whole m_nameSize m_fault m_place m_trouble2_2 a_letters m_failed m_hasHouse a_r a_fresh a_st a_undone a_kept m_undos m_images a_from a_begin a_motor a_change a_startFrame a_changeFrame a_lostAt a_blackAt a_slips a_leftArc a_died a_arcs m_bestSum m_nearest m_nearestTown a_there a_backAt a_sorted a_parts m_seed1 m_darkNow), (cAI g a_r 311 d_r), (cAI g a_st 44 d_st), (cAI g a_from 8 d_from2_8), (cAI g a_begin 8 d_begin2_4), (cAI g a_motor 8 d_motor2_10), (cAI g a_change 8 d_change2_6), (cAI g a_startFrame 8 d_startFrame2_12), (cAI g a_changeFrame 8 d_changeFrame2_7), (cAI g a_lostAt 8 d_lostAt2_9), (cAI g a_blackAt 8 d_blackAt2_5), (cAI g a_slips 8 d_slips2_11)] [7, 8, 9, 10, 0, 1, 2, 3, 11, 4, 5, 6] rfl (by decide) rfl ?_
        exact ih_29 _ (by omega) u_21 u_23 z_56 rfl (iv_w hv_22 (by decide) (by decide)) (iv_w hv_24 (by decide) (by decide)) (iv_w iv_58 (by decide) (by decide))
  · skip
    have iv_59 : IV r_13 0 0 := iv_meet iv_14 (iv_e h_16 (show IV 0 0 0 from (by decide))) (by decide) (by decide)
    refine k_aload_n X dX11_worst_13 0 rfl ?_
    refine k_iconst (v := 1) X dX11_worst_14 (by decide) ?_
    refine k_callVI (n := 1) (As := [.int 1]) (st := []) X [(cO11_i1r1i10r1i2r5i2r12i3r4i2 h0 m_thrown2_1 a_tape m_taped m_size m_at m_end m_token m_whole m_nameSize m_fault m_place m_trouble2_2 a_letters m_failed m_hasHouse a_r a_fresh a_st a_undone a_kept m_undos m_images a_from a_begin a_motor a_change a_startFrame a_changeFrame a_lostAt a_blackAt a_slips a_leftArc a_died a_arcs m_bestSum m_nearest m_nearestTown a_there a_backAt a_sorted a_parts m_seed1 m_darkNow)] [(cAI g a_r 311 d_r), (cAI g a_st 44 d_st), (cAI g a_from 8 d_from2_8), (cAI g a_begin 8 d_begin2_4), (cAI g a_motor 8 d_motor2_10), (cAI g a_change 8 d_change2_6), (cAI g a_startFrame 8 d_startFrame2_12), (cAI g a_changeFrame 8 d_changeFrame2_7), (cAI g a_lostAt 8 d_lostAt2_9), (cAI g a_blackAt 8 d_blackAt2_5), (cAI g a_slips 8 d_slips2_11)] [0] [1, 2, 3, 4, 5, 6, 7, 8, 9, 10, 11] (m_no l g h0 1 m_thrown2_1 a_tape m_taped m_size m_at m_end m_token m_whole m_nameSize m_fault m_place m_trouble2_2 a_letters m_failed m_hasHouse a_r a_fresh a_st a_undone a_kept m_undos m_images a_from a_begin a_motor a_change a_startFrame a_changeFrame a_lostAt a_blackAt a_slips a_leftArc a_died a_arcs m_bestSum m_nearest m_nearestTown a_there a_backAt a_sorted a_parts m_seed1 m_darkNow) dX11_worst_15 mw485 mw486 mw487 mw5 mw488 rfl 11 rfl rfl 0 _ rfl yk_yX11_no_1 rfl (Nat.le_of_ble_eq_true rfl) (Nat.le_of_ble_eq_true rfl) (Nat.le_of_ble_eq_true rfl) (Nat.le_of_ble_eq_true rfl) (Nat.le_of_ble_eq_true rfl) rfl rfl (by decide +kernel) rfl (by decide +kernel) (by decide +kernel) ?_
    rintro r_61 w ⟨m_trouble2_60, iv_62, rfl⟩
    refine k_ws [(cAI g a_r 311 d_r), (cAI g a_st 44 d_st), (cAI g a_from 8 d_from2_8), (cAI g a_begin 8 d_begin2_4), (cAI g a_motor 8 d_motor2_10), (cAI g a_change 8 d_change2_6), (cAI g a_startFrame 8 d_startFrame2_12), (cAI g a_changeFrame 8 d_changeFrame2_7), (cAI g a_lostAt 8 d_lostAt2_9), (cAI g a_blackAt 8 d_blackAt2_5), (cAI g a_slips 8 d_slips2_11), (cO11_i1r1i10r1i2r5i2r12i3r4i2 h0 m_thrown2_1 a_tape m_taped m_size m_at m_end m_token m_whole m_nameSize m_fault m_place m_trouble2_60 a_letters m_failed m_hasHouse a_r a_fresh a_st a_undone a_kept m_undos m_images a_from a_begin a_motor a_change a_startFrame a_changeFrame a_lostAt a_blackAt a_slips a_leftArc a_died a_arcs m_bestSum m_nearest m_nearestTown a_there a_backAt a_sorted a_parts m_seed1 m_darkNow)] rfl ?_
    exact k_iret X hr dX11_worst_18 (Nat.le_of_ble_eq_true rfl) (Nat.le_of_ble_eq_true rfl) [11, 0, 1, 2, 3, 4, 5, 6, 7, 8, 9, 10] (by decide) rfl rfl ⟨d_begin2_4, d_blackAt2_5, d_change2_6, d_changeFrame2_7, d_from2_8, d_lostAt2_9, d_motor2_10, d_slips2_11, d_startFrame2_12, m_thrown2_1, m_trouble2_60, rfl⟩

theorem dX11_exact_0 : decode cX11_exact 0 = .ok (.aload_n 0, 1) := dk_42 rfl
theorem dX11_exact_1 : decode cX11_exact 1 = .ok (.invokevirtual 200, 3) := dk_182 rfl rfl rfl rfl
theorem dX11_exact_4 : decode cX11_exact 4 = .ok (.iload_n 2, 1) := dk_28 rfl
theorem dX11_exact_5 : decode cX11_exact 5 = .ok (.iconst 1, 1) := dk_4 rfl
theorem dX11_exact_6 : decode cX11_exact 6 = .ok (.if_icmp .lt 12, 3) := dk_161 rfl rfl rfl (by decide)
theorem dX11_exact_9 : decode cX11_exact 9 = .ok (.aload_n 0, 1) := dk_42 rfl
theorem dX11_exact_10 : decode cX11_exact 10 = .ok (.iload_n 1, 1) := dk_27 rfl
theorem dX11_exact_11 : decode cX11_exact 11 = .ok (.iload_n 2, 1) := dk_28 rfl
theorem dX11_exact_12 : decode cX11_exact 12 = .ok (.invokevirtual 376, 3) := dk_182 rfl rfl rfl rfl
theorem dX11_exact_15 : decode cX11_exact 15 = .ok (.ifCond .ne 9, 3) := dk_154 rfl rfl rfl (by decide)
theorem dX11_exact_18 : decode cX11_exact 18 = .ok (.aload_n 0, 1) := dk_42 rfl
theorem dX11_exact_19 : decode cX11_exact 19 = .ok (.iconst 1, 1) := dk_4 rfl
theorem dX11_exact_20 : decode cX11_exact 20 = .ok (.invokevirtual 203, 3) := dk_182 rfl rfl rfl rfl
theorem dX11_exact_23 : decode cX11_exact 23 = .ok (.ireturn, 1) := dk_172 rfl
theorem dX11_exact_24 : decode cX11_exact 24 = .ok (.aload_n 0, 1) := dk_42 rfl
theorem dX11_exact_25 : decode cX11_exact 25 = .ok (.iload_n 2, 1) := dk_28 rfl
theorem dX11_exact_26 : decode cX11_exact 26 = .ok (.iconst 1, 1) := dk_4 rfl
theorem dX11_exact_27 : decode cX11_exact 27 = .ok (.isub, 1) := dk_100 rfl
theorem dX11_exact_28 : decode cX11_exact 28 = .ok (.invokevirtual 357, 3) := dk_182 rfl rfl rfl rfl
theorem dX11_exact_31 : decode cX11_exact 31 = .ok (.ifCond .eq 6, 3) := dk_153 rfl rfl rfl (by decide)
theorem dX11_exact_34 : decode cX11_exact 34 = .ok (.bipush (-2), 2) := dk_16 rfl rfl (by decide)
theorem dX11_exact_36 : decode cX11_exact 36 = .ok (.ireturn, 1) := dk_172 rfl
theorem dX11_exact_37 : decode cX11_exact 37 = .ok (.aload_n 0, 1) := dk_42 rfl
theorem dX11_exact_38 : decode cX11_exact 38 = .ok (.getfield 50, 3) := dk_180 rfl rfl rfl rfl
theorem dX11_exact_41 : decode cX11_exact 41 = .ok (.iload_n 2, 1) := dk_28 rfl
theorem dX11_exact_42 : decode cX11_exact 42 = .ok (.iconst 1, 1) := dk_4 rfl
theorem dX11_exact_43 : decode cX11_exact 43 = .ok (.isub, 1) := dk_100 rfl
theorem dX11_exact_44 : decode cX11_exact 44 = .ok (.iaload, 1) := dk_46 rfl
theorem dX11_exact_45 : decode cX11_exact 45 = .ok (.aload_n 0, 1) := dk_42 rfl
theorem dX11_exact_46 : decode cX11_exact 46 = .ok (.getfield 47, 3) := dk_180 rfl rfl rfl rfl
theorem dX11_exact_49 : decode cX11_exact 49 = .ok (.iload_n 2, 1) := dk_28 rfl
theorem dX11_exact_50 : decode cX11_exact 50 = .ok (.iconst 1, 1) := dk_4 rfl
theorem dX11_exact_51 : decode cX11_exact 51 = .ok (.isub, 1) := dk_100 rfl
theorem dX11_exact_52 : decode cX11_exact 52 = .ok (.iaload, 1) := dk_46 rfl
theorem dX11_exact_53 : decode cX11_exact 53 = .ok (.isub, 1) := dk_100 rfl
theorem dX11_exact_54 : decode cX11_exact 54 = .ok (.aload_n 0, 1) := dk_42 rfl
theorem dX11_exact_55 : decode cX11_exact 55 = .ok (.getfield 20, 3) := dk_180 rfl rfl rfl rfl
theorem dX11_exact_58 : decode cX11_exact 58 = .ok (.iconst 1, 1) := dk_4 rfl
theorem dX11_exact_59 : decode cX11_exact 59 = .ok (.iaload, 1) := dk_46 rfl
theorem dX11_exact_60 : decode cX11_exact 60 = .ok (.isub, 1) := dk_100 rfl
theorem dX11_exact_61 : decode cX11_exact 61 = .ok (.iconst 0, 1) := dk_3 rfl
theorem dX11_exact_62 : decode cX11_exact 62 = .ok (.invokestatic 351, 3) := dk_184 rfl rfl rfl rfl
theorem dX11_exact_65 : decode cX11_exact 65 = .ok (.sipush 199, 3) := dk_17 rfl rfl rfl (by decide)
theorem dX11_exact_68 : decode cX11_exact 68 = .ok (.invokestatic 348, 3) := dk_184 rfl rfl rfl rfl
theorem dX11_exact_71 : decode cX11_exact 71 = .ok (.ireturn, 1) := dk_172 rfl
set_option maxHeartbeats 4000000 in
set_option maxRecDepth 100000 in
theorem m_exact (l : Launch) (g : Gx) (h0 : Nat) (p0 : Int32) (p1 : Int32) (m_thrown : Int32) (a_tape : Nat) (m_taped : Int32) (m_size : Int32) (m_at : Int32) (m_end : Int32) (m_token : Int32) (m_whole : Int32) (m_nameSize : Int32) (m_fault : Int32) (m_place : Int32) (m_trouble : Int32) (a_letters : Nat) (m_failed : Int32) (m_hasHouse : Int32) (a_r : Nat) (a_fresh : Nat) (a_st : Nat) (a_undone : Nat) (a_kept : Nat) (m_undos : Int32) (m_images : Int32) (a_from : Nat) (a_begin : Nat) (a_motor : Nat) (a_change : Nat) (a_startFrame : Nat) (a_changeFrame : Nat) (a_lostAt : Nat) (a_blackAt : Nat) (a_slips : Nat) (a_leftArc : Nat) (a_died : Nat) (a_arcs : Nat) (m_bestSum : Int32) (m_nearest : Int32) (m_nearestTown : Int32) (a_there : Nat) (a_backAt : Nat) (a_sorted : Nat) (a_parts : Nat) (m_seed1 : Int32) (m_darkNow : Int32) (d_r : Nat → Int32) (d_st : Nat → Int32) (d_from : Nat → Int32) (d_begin : Nat → Int32) (d_motor : Nat → Int32) (d_change : Nat → Int32) (d_startFrame : Nat → Int32) (d_changeFrame : Nat → Int32) (d_lostAt : Nat → Int32) (d_blackAt : Nat → Int32) (d_slips : Nat → Int32) (hv_m_hasHouse : IV m_hasHouse 0 1) (hp_d_r : RInv d_r) : cI l g yX11_exact cX11_exact 3 (some .int) 6 132 0 0 [.ref h0, .int p0, .int p1] [(cO11_i1r1i10r1i2r5i2r12i3r4i2 h0 m_thrown a_tape m_taped m_size m_at m_end m_token m_whole m_nameSize m_fault m_place m_trouble a_letters m_failed m_hasHouse a_r a_fresh a_st a_undone a_kept m_undos m_images a_from a_begin a_motor a_change a_startFrame a_changeFrame a_lostAt a_blackAt a_slips a_leftArc a_died a_arcs m_bestSum m_nearest m_nearestTown a_there a_backAt a_sorted a_parts m_seed1 m_darkNow), (cAI g a_r 311 d_r), (cAI g a_st 44 d_st), (cAI g a_from 8 d_from), (cAI g a_begin 8 d_begin), (cAI g a_motor 8 d_motor), (cAI g a_change 8 d_change), (cAI g a_startFrame 8 d_startFrame), (cAI g a_changeFrame 8 d_changeFrame), (cAI g a_lostAt 8 d_lostAt), (cAI g a_blackAt 8 d_blackAt), (cAI g a_slips 8 d_slips)] (fun r w => ∃ (d_begin2 : Nat → Int32) (d_blackAt2 : Nat → Int32) (d_change2 : Nat → Int32) (d_changeFrame2 : Nat → Int32) (d_from2 : Nat → Int32) (d_lostAt2 : Nat → Int32) (d_motor2 : Nat → Int32) (d_slips2 : Nat → Int32) (d_startFrame2 : Nat → Int32) (m_thrown2 : Int32) (m_trouble2 : Int32), w = [(cO11_i1r1i10r1i2r5i2r12i3r4i2 h0 m_thrown2 a_tape m_taped m_size m_at m_end m_token m_whole m_nameSize m_fault m_place m_trouble2 a_letters m_failed m_hasHouse a_r a_fresh a_st a_undone a_kept m_undos m_images a_from a_begin a_motor a_change a_startFrame a_changeFrame a_lostAt a_blackAt a_slips a_leftArc a_died a_arcs m_bestSum m_nearest m_nearestTown a_there a_backAt a_sorted a_parts m_seed1 m_darkNow), (cAI g a_r 311 d_r), (cAI g a_st 44 d_st), (cAI g a_from 8 d_from2), (cAI g a_begin 8 d_begin2), (cAI g a_motor 8 d_motor2), (cAI g a_change 8 d_change2), (cAI g a_startFrame 8 d_startFrame2), (cAI g a_changeFrame 8 d_changeFrame2), (cAI g a_lostAt 8 d_lostAt2), (cAI g a_blackAt 8 d_blackAt2), (cAI g a_slips 8 d_slips2)]) := by
  refine cI.of (by decide) (Nat.le_of_ble_eq_true rfl) ?_
  intro p e s m args below meth c A X hr hi
  refine k_lveq [(0, .ref h0), (1, .int p0), (2, .int p1)] rfl ?_
  refine k_aload_n X dX11_exact_0 0 rfl ?_
  refine k_callVV (n := 0) (As := []) (st := []) X [(cO11_i1r1i10r1i2r5i2r12i3r4i2 h0 m_thrown a_tape m_taped m_size m_at m_end m_token m_whole m_nameSize m_fault m_place m_trouble a_letters m_failed m_hasHouse a_r a_fresh a_st a_undone a_kept m_undos m_images a_from a_begin a_motor a_change a_startFrame a_changeFrame a_lostAt a_blackAt a_slips a_leftArc a_died a_arcs m_bestSum m_nearest m_nearestTown a_there a_backAt a_sorted a_parts m_seed1 m_darkNow)] [(cAI g a_r 311 d_r), (cAI g a_st 44 d_st), (cAI g a_from 8 d_from), (cAI g a_begin 8 d_begin), (cAI g a_motor 8 d_motor), (cAI g a_change 8 d_change), (cAI g a_startFrame 8 d_startFrame), (cAI g a_changeFrame 8 d_changeFrame), (cAI g a_lostAt 8 d_lostAt), (cAI g a_blackAt 8 d_blackAt), (cAI g a_slips 8 d_slips)] [0] [1, 2, 3, 4, 5, 6, 7, 8, 9, 10, 11] (m_good l g h0 m_thrown a_tape m_taped m_size m_at m_end m_token m_whole m_nameSize m_fault m_place m_trouble a_letters m_failed m_hasHouse a_r a_fresh a_st a_undone a_kept m_undos m_images a_from a_begin a_motor a_change a_startFrame a_changeFrame a_lostAt a_blackAt a_slips a_leftArc a_died a_arcs m_bestSum m_nearest m_nearestTown a_there a_backAt a_sorted a_parts m_seed1 m_darkNow) dX11_exact_1 mw477 mw478 mw479 mw5 mw480 rfl 11 rfl rfl 0 _ rfl yk_yX11_good_0 rfl (Nat.le_of_ble_eq_true rfl) (Nat.le_of_ble_eq_true rfl) (Nat.le_of_ble_eq_true rfl) (Nat.le_of_ble_eq_true rfl) (Nat.le_of_ble_eq_true rfl) rfl rfl (by decide +kernel) rfl (by decide +kernel) (by decide +kernel) ?_
  rintro w ⟨m_thrown2_1, m_trouble2_2, rfl⟩
  refine k_ws [(cAI g a_r 311 d_r), (cAI g a_st 44 d_st), (cAI g a_from 8 d_from), (cAI g a_begin 8 d_begin), (cAI g a_motor 8 d_motor), (cAI g a_change 8 d_change), (cAI g a_startFrame 8 d_startFrame), (cAI g a_changeFrame 8 d_changeFrame), (cAI g a_lostAt 8 d_lostAt), (cAI g a_blackAt 8 d_blackAt), (cAI g a_slips 8 d_slips), (cO11_i1r1i10r1i2r5i2r12i3r4i2 h0 m_thrown2_1 a_tape m_taped m_size m_at m_end m_token m_whole m_nameSize m_fault m_place m_trouble2_2 a_letters m_failed m_hasHouse a_r a_fresh a_st a_undone a_kept m_undos m_images a_from a_begin a_motor a_change a_startFrame a_changeFrame a_lostAt a_blackAt a_slips a_leftArc a_died a_arcs m_bestSum m_nearest m_nearestTown a_there a_backAt a_sorted a_parts m_seed1 m_darkNow)] rfl ?_
  refine k_iload_n X dX11_exact_4 2 rfl ?_
  refine k_iconst (v := 1) X dX11_exact_5 (by decide) ?_
  refine k_ic_lt 18 X dX11_exact_6 (by decide) (fun h_4 => ?_) (fun h_4 => ?_)
  · skip
    have j_5 : p1.toInt < 1 := iv_lt h_4
    have iv_6 : IV p1 (-2147483648) 0 := iv_ltL (iv_lt h_4) (iv_any p1) (show IV 1 1 1 from (by decide)) (by decide)
    refine k_aload_n X dX11_exact_18 0 rfl ?_
    refine k_iconst (v := 1) X dX11_exact_19 (by decide) ?_
    refine k_callVI (n := 1) (As := [.int 1]) (st := []) X [(cO11_i1r1i10r1i2r5i2r12i3r4i2 h0 m_thrown2_1 a_tape m_taped m_size m_at m_end m_token m_whole m_nameSize m_fault m_place m_trouble2_2 a_letters m_failed m_hasHouse a_r a_fresh a_st a_undone a_kept m_undos m_images a_from a_begin a_motor a_change a_startFrame a_changeFrame a_lostAt a_blackAt a_slips a_leftArc a_died a_arcs m_bestSum m_nearest m_nearestTown a_there a_backAt a_sorted a_parts m_seed1 m_darkNow)] [(cAI g a_r 311 d_r), (cAI g a_st 44 d_st), (cAI g a_from 8 d_from), (cAI g a_begin 8 d_begin), (cAI g a_motor 8 d_motor), (cAI g a_change 8 d_change), (cAI g a_startFrame 8 d_startFrame), (cAI g a_changeFrame 8 d_changeFrame), (cAI g a_lostAt 8 d_lostAt), (cAI g a_blackAt 8 d_blackAt), (cAI g a_slips 8 d_slips)] [11] [0, 1, 2, 3, 4, 5, 6, 7, 8, 9, 10] (m_no l g h0 1 m_thrown2_1 a_tape m_taped m_size m_at m_end m_token m_whole m_nameSize m_fault m_place m_trouble2_2 a_letters m_failed m_hasHouse a_r a_fresh a_st a_undone a_kept m_undos m_images a_from a_begin a_motor a_change a_startFrame a_changeFrame a_lostAt a_blackAt a_slips a_leftArc a_died a_arcs m_bestSum m_nearest m_nearestTown a_there a_backAt a_sorted a_parts m_seed1 m_darkNow) dX11_exact_20 mw485 mw486 mw487 mw5 mw488 rfl 11 rfl rfl 0 _ rfl yk_yX11_no_1 rfl (Nat.le_of_ble_eq_true rfl) (Nat.le_of_ble_eq_true rfl) (Nat.le_of_ble_eq_true rfl) (Nat.le_of_ble_eq_true rfl) (Nat.le_of_ble_eq_true rfl) rfl rfl (by decide +kernel) rfl (by decide +kernel) (by decide +kernel) ?_
    rintro r_8 w ⟨m_trouble2_7, iv_9, rfl⟩
    refine k_ws [(cAI g a_r 311 d_r), (cAI g a_st 44 d_st), (cAI g a_from 8 d_from), (cAI g a_begin 8 d_begin), (cAI g a_motor 8 d_motor), (cAI g a_change 8 d_change), (cAI g a_startFrame 8 d_startFrame), (cAI g a_changeFrame 8 d_changeFrame), (cAI g a_lostAt 8 d_lostAt), (cAI g a_blackAt 8 d_blackAt), (cAI g a_slips 8 d_slips), (cO11_i1r1i10r1i2r5i2r12i3r4i2 h0 m_thrown2_1 a_tape m_taped m_size m_at m_end m_token m_whole m_nameSize m_fault m_place m_trouble2_7 a_letters m_failed m_hasHouse a_r a_fresh a_st a_undone a_kept m_undos m_images a_from a_begin a_motor a_change a_startFrame a_changeFrame a_lostAt a_blackAt a_slips a_leftArc a_died a_arcs m_bestSum m_nearest m_nearestTown a_there a_backAt a_sorted a_parts m_seed1 m_darkNow)] rfl ?_
    exact k_iret X hr dX11_exact_23 (Nat.le_of_ble_eq_true rfl) (Nat.le_of_ble_eq_true rfl) [11, 0, 1, 2, 3, 4, 5, 6, 7, 8, 9, 10] (by decide) rfl rfl ⟨d_begin, d_blackAt, d_change, d_changeFrame, d_from, d_lostAt, d_motor, d_slips, d_startFrame, m_thrown2_1, m_trouble2_7, rfl⟩
  · skip
    have j_10 : 1 ≤ p1.toInt := iv_nlt h_4
    have iv_11 : IV p1 1 2147483647 := iv_leR (iv_nlt h_4) (show IV 1 1 1 from (by decide)) (iv_any p1) (by decide)
    refine k_aload_n X dX11_exact_9 0 rfl ?_
    refine k_iload_n X dX11_exact_10 1 rfl ?_
    refine k_iload_n X dX11_exact_11 2 rfl ?_
    refine k_callVI (n := 2) (As := [.int p0, .int p1]) (st := []) X [(cO11_i1r1i10r1i2r5i2r12i3r4i2 h0 m_thrown2_1 a_tape m_taped m_size m_at m_end m_token m_whole m_nameSize m_fault m_place m_trouble2_2 a_letters m_failed m_hasHouse a_r a_fresh a_st a_undone a_kept m_undos m_images a_from a_begin a_motor a_change a_startFrame a_changeFrame a_lostAt a_blackAt a_slips a_leftArc a_died a_arcs m_bestSum m_nearest m_nearestTown a_there a_backAt a_sorted a_parts m_seed1 m_darkNow), (cAI g a_r 311 d_r), (cAI g a_st 44 d_st), (cAI g a_from 8 d_from), (cAI g a_begin 8 d_begin), (cAI g a_motor 8 d_motor), (cAI g a_change 8 d_change), (cAI g a_startFrame 8 d_startFrame), (cAI g a_changeFrame 8 d_changeFrame), (cAI g a_lostAt 8 d_lostAt), (cAI g a_blackAt 8 d_blackAt), (cAI g a_slips 8 d_slips)] [] [11, 0, 1, 2, 3, 4, 5, 6, 7, 8, 9, 10] [] (m_canTell l g h0 p0 p1 m_thrown2_1 a_tape m_taped m_size m_at m_end m_token m_whole m_nameSize m_fault m_place m_trouble2_2 a_letters m_failed m_hasHouse a_r a_fresh a_st a_undone a_kept m_undos m_images a_from a_begin a_motor a_change a_startFrame a_changeFrame a_lostAt a_blackAt a_slips a_leftArc a_died a_arcs m_bestSum m_nearest m_nearestTown a_there a_backAt a_sorted a_parts m_seed1 m_darkNow d_r d_st d_from d_begin d_motor d_change d_startFrame d_changeFrame d_lostAt d_blackAt d_slips (iv_w hv_m_hasHouse (by decide) (by decide)) hp_d_r) dX11_exact_12 mw807 mw808 mw809 mw5 mw810 rfl 11 rfl rfl 0 _ rfl yk_yX11_canTell_2 rfl (Nat.le_of_ble_eq_true rfl) (Nat.le_of_ble_eq_true rfl) (Nat.le_of_ble_eq_true rfl) (Nat.le_of_ble_eq_true rfl) (Nat.le_of_ble_eq_true rfl) rfl rfl (by decide +kernel) rfl (by decide +kernel) (by decide +kernel) ?_
    intro r_21 w zq
    refine exE9 zq ?_
    clear zq
    intro d_begin2_12 d_blackAt2_13 d_change2_14 d_changeFrame2_15 d_from2_16 d_lostAt2_17 d_motor2_18 d_slips2_19 d_startFrame2_20 iv_22 zq
    refine exA1 zq ?_
    clear zq
    intro hk_23 zq
    subst zq
    refine k_ws [(cO11_i1r1i10r1i2r5i2r12i3r4i2 h0 m_thrown2_1 a_tape m_taped m_size m_at m_end m_token m_whole m_nameSize m_fault m_place m_trouble2_2 a_letters m_failed m_hasHouse a_r a_fresh a_st a_undone a_kept m_undos m_images a_from a_begin a_motor a_change a_startFrame a_changeFrame a_lostAt a_blackAt a_slips a_leftArc a_died a_arcs m_bestSum m_nearest m_nearestTown a_there a_backAt a_sorted a_parts m_seed1 m_darkNow), (cAI g a_r 311 d_r), (cAI g a_st 44 d_st), (cAI g a_from 8 d_from2_16), (cAI g a_begin 8 d_begin2_12), (cAI g a_motor 8 d_motor2_18), (cAI g a_change 8 d_change2_14), (cAI g a_startFrame 8 d_startFrame2_20), (cAI g a_changeFrame 8 d_changeFrame2_15), (cAI g a_lostAt 8 d_lostAt2_17), (cAI g a_blackAt 8 d_blackAt2_13), (cAI g a_slips 8 d_slips2_19)] rfl ?_
    refine k_if_ne 24 X dX11_exact_15 (by decide) (fun h_24 => ?_) (fun h_24 => ?_)
    · skip
      have hc_25 := hk_23.resolve_left h_24
      have iv_26 : IV p0 0 3 := iv_meet (iv_any p0) hc_25.1 (by decide) (by decide)
      have iv_27 : IV p1 1 7 := iv_meet iv_11 hc_25.2.1 (by decide) (by decide)
      have j_28 : p1.toInt < (d_r 12).toInt := hc_25.2.2
      have iv_29 : IV r_21 1 1 := iv_neL h_24 iv_22 (show IV 0 0 0 from (by decide)) (by decide)
      refine k_aload_n X dX11_exact_24 0 rfl ?_
      refine k_iload_n X dX11_exact_25 2 rfl ?_
      refine k_iconst (v := 1) X dX11_exact_26 (by decide) ?_
      refine k_isub X dX11_exact_27 ?_
      refine k_nm (fun z_30 ez_30 => ?_)
      have i_31 : z_30.toInt = p1.toInt - 1 := in_sub ez_30 iv_27 (show IV 1 1 1 from (by decide)) (by decide) (by decide)
      have iv_32 : IV z_30 0 6 := iz5 i_31 iv_27 (by decide) (by decide)
      refine k_callVI (n := 1) (As := [.int z_30]) (st := []) X [(cO11_i1r1i10r1i2r5i2r12i3r4i2 h0 m_thrown2_1 a_tape m_taped m_size m_at m_end m_token m_whole m_nameSize m_fault m_place m_trouble2_2 a_letters m_failed m_hasHouse a_r a_fresh a_st a_undone a_kept m_undos m_images a_from a_begin a_motor a_change a_startFrame a_changeFrame a_lostAt a_blackAt a_slips a_leftArc a_died a_arcs m_bestSum m_nearest m_nearestTown a_there a_backAt a_sorted a_parts m_seed1 m_darkNow), (cAI g a_r 311 d_r), (cAI g a_st 44 d_st), (cAI g a_from 8 d_from2_16)] [(cAI g a_begin 8 d_begin2_12), (cAI g a_motor 8 d_motor2_18), (cAI g a_change 8 d_change2_14), (cAI g a_startFrame 8 d_startFrame2_20), (cAI g a_changeFrame 8 d_changeFrame2_15), (cAI g a_lostAt 8 d_lostAt2_17), (cAI g a_blackAt 8 d_blackAt2_13), (cAI g a_slips 8 d_slips2_19)] [0, 1, 2, 3] [4, 5, 6, 7, 8, 9, 10, 11] (m_isGone l g h0 z_30 m_thrown2_1 a_tape m_taped m_size m_at m_end m_token m_whole m_nameSize m_fault m_place m_trouble2_2 a_letters m_failed m_hasHouse a_r a_fresh a_st a_undone a_kept m_undos m_images a_from a_begin a_motor a_change a_startFrame a_changeFrame a_lostAt a_blackAt a_slips a_leftArc a_died a_arcs m_bestSum m_nearest m_nearestTown a_there a_backAt a_sorted a_parts m_seed1 m_darkNow d_r d_st d_from2_16 (iv_w iv_32 (by decide) (by decide)) hp_d_r) dX11_exact_28 mw827 mw828 mw829 mw5 mw830 rfl 11 rfl rfl 0 _ rfl yk_yX11_isGone_1 rfl (Nat.le_of_ble_eq_true rfl) (Nat.le_of_ble_eq_true rfl) (Nat.le_of_ble_eq_true rfl) (Nat.le_of_ble_eq_true rfl) (Nat.le_of_ble_eq_true rfl) rfl rfl (by decide +kernel) rfl (by decide +kernel) (by decide +kernel) ?_
      rintro r_33 w ⟨iv_34, rfl⟩
      refine k_ws [(cAI g a_begin 8 d_begin2_12), (cAI g a_motor 8 d_motor2_18), (cAI g a_change 8 d_change2_14), (cAI g a_startFrame 8 d_startFrame2_20), (cAI g a_changeFrame 8 d_changeFrame2_15), (cAI g a_lostAt 8 d_lostAt2_17), (cAI g a_blackAt 8 d_blackAt2_13), (cAI g a_slips 8 d_slips2_19), (cO11_i1r1i10r1i2r5i2r12i3r4i2 h0 m_thrown2_1 a_tape m_taped m_size m_at m_end m_token m_whole m_nameSize m_fault m_place m_trouble2_2 a_letters m_failed m_hasHouse a_r a_fresh a_st a_undone a_kept m_undos m_images a_from a_begin a_motor a_change a_startFrame a_changeFrame a_lostAt a_blackAt a_slips a_leftArc a_died a_arcs m_bestSum m_nearest m_nearestTown a_there a_backAt a_sorted a_parts m_seed1 m_darkNow), (cAI g a_r 311 d_r), (cAI g a_st 44 d_st), (cAI g a_from 8 d_from2_16)] rfl ?_
      refine k_if_eq 37 X dX11_exact_31 (by decide) (fun h_35 => ?_) (fun h_35 => ?_)
      · skip
        have iv_36 : IV r_33 0 0 := iv_meet iv_34 (iv_e h_35 (show IV 0 0 0 from (by decide))) (by decide) (by decide)
        refine k_aload_n X dX11_exact_37 0 rfl ?_
        refine k_get (ci := 11) X inlX11 rfl 27 (by decide) dX11_exact_38 mw180 8 rfl rfl ?_
        refine k_iload_n X dX11_exact_41 2 rfl ?_
        refine k_iconst (v := 1) X dX11_exact_42 (by decide) ?_
        refine k_isub X dX11_exact_43 ?_
        refine k_to z_30 ez_30.symm ?_
        refine k_iald X dX11_exact_44 4 rfl (iv_in iv_32 (by decide) (by decide)) ?_
        refine k_nm (fun z_37 ez_37 => ?_)
        refine k_aload_n X dX11_exact_45 0 rfl ?_
        refine k_get (ci := 11) X inlX11 rfl 26 (by decide) dX11_exact_46 mw179 8 rfl rfl ?_
        refine k_iload_n X dX11_exact_49 2 rfl ?_
        refine k_iconst (v := 1) X dX11_exact_50 (by decide) ?_
        refine k_isub X dX11_exact_51 ?_
        refine k_to z_30 ez_30.symm ?_
        refine k_iald X dX11_exact_52 3 rfl (iv_in iv_32 (by decide) (by decide)) ?_
        refine k_nm (fun z_38 ez_38 => ?_)
        refine k_isub X dX11_exact_53 ?_
        refine k_nm (fun z_39 ez_39 => ?_)
        refine k_aload_n X dX11_exact_54 0 rfl ?_
        refine k_get (ci := 11) X inlX11 rfl 15 (by decide) dX11_exact_55 mw170 8 rfl rfl ?_
        refine k_iconst (v := 1) X dX11_exact_58 (by decide) ?_
        refine k_iald X dX11_exact_59 9 rfl (by unfold vp_in; decide) ?_
        refine k_nm (fun z_41 ez_41 => ?_)
        refine k_isub X dX11_exact_60 ?_
        refine k_nm (fun z_42 ez_42 => ?_)
        refine k_iconst (v := 0) X dX11_exact_61 (by decide) ?_
        refine k_callSI (n := 2) (As := [.int z_42, .int 0]) (st := []) X [] [(cAI g a_begin 8 d_begin2_12), (cAI g a_motor 8 d_motor2_18), (cAI g a_change 8 d_change2_14), (cAI g a_startFrame 8 d_startFrame2_20), (cAI g a_changeFrame 8 d_changeFrame2_15), (cAI g a_lostAt 8 d_lostAt2_17), (cAI g a_blackAt 8 d_blackAt2_13), (cAI g a_slips 8 d_slips2_19), (cO11_i1r1i10r1i2r5i2r12i3r4i2 h0 m_thrown2_1 a_tape m_taped m_size m_at m_end m_token m_whole m_nameSize m_fault m_place m_trouble2_2 a_letters m_failed m_hasHouse a_r a_fresh a_st a_undone a_kept m_undos m_images a_from a_begin a_motor a_change a_startFrame a_changeFrame a_lostAt a_blackAt a_slips a_leftArc a_died a_arcs m_bestSum m_nearest m_nearestTown a_there a_backAt a_sorted a_parts m_seed1 m_darkNow), (cAI g a_r 311 d_r), (cAI g a_st 44 d_st), (cAI g a_from 8 d_from2_16)] [] [0, 1, 2, 3, 4, 5, 6, 7, 8, 9, 10, 11] (m_most l g z_42 0) dX11_exact_62 mw842 mw843 mw5 mw844 yk_yX11_most_2 rfl (Nat.le_of_ble_eq_true rfl) (Nat.le_of_ble_eq_true rfl) (Nat.le_of_ble_eq_true rfl) (Nat.le_of_ble_eq_true rfl) (Nat.le_of_ble_eq_true rfl) rfl rfl (by decide +kernel) rfl (by decide +kernel) (by decide +kernel) ?_
        rintro r_44 w rfl
        refine k_ws [(cAI g a_begin 8 d_begin2_12), (cAI g a_motor 8 d_motor2_18), (cAI g a_change 8 d_change2_14), (cAI g a_startFrame 8 d_startFrame2_20), (cAI g a_changeFrame 8 d_changeFrame2_15), (cAI g a_lostAt 8 d_lostAt2_17), (cAI g a_blackAt 8 d_blackAt2_13), (cAI g a_slips 8 d_slips2_19), (cO11_i1r1i10r1i2r5i2r12i3r4i2 h0 m_thrown2_1 a_tape m_taped m_size m_at m_end m_token m_whole m_nameSize m_fault m_place m_trouble2_2 a_letters m_failed m_hasHouse a_r a_fresh a_st a_undone a_kept m_undos m_images a_from a_begin a_motor a_change a_startFrame a_changeFrame a_lostAt a_blackAt a_slips a_leftArc a_died a_arcs m_bestSum m_nearest m_nearestTown a_there a_backAt a_sorted a_parts m_seed1 m_darkNow), (cAI g a_r 311 d_r), (cAI g a_st 44 d_st), (cAI g a_from 8 d_from2_16)] rfl ?_
        refine k_sipush (v := 199) X dX11_exact_65 (by decide) ?_
        refine k_callSI (n := 2) (As := [.int r_44, .int 199]) (st := []) X [] [(cAI g a_begin 8 d_begin2_12), (cAI g a_motor 8 d_motor2_18), (cAI g a_change 8 d_change2_14), (cAI g a_startFrame 8 d_startFrame2_20), (cAI g a_changeFrame 8 d_changeFrame2_15), (cAI g a_lostAt 8 d_lostAt2_17), (cAI g a_blackAt 8 d_blackAt2_13), (cAI g a_slips 8 d_slips2_19), (cO11_i1r1i10r1i2r5i2r12i3r4i2 h0 m_thrown2_1 a_tape m_taped m_size m_at m_end m_token m_whole m_nameSize m_fault m_place m_trouble2_2 a_letters m_failed m_hasHouse a_r a_fresh a_st a_undone a_kept m_undos m_images a_from a_begin a_motor a_change a_startFrame a_changeFrame a_lostAt a_blackAt a_slips a_leftArc a_died a_arcs m_bestSum m_nearest m_nearestTown a_there a_backAt a_sorted a_parts m_seed1 m_darkNow), (cAI g a_r 311 d_r), (cAI g a_st 44 d_st), (cAI g a_from 8 d_from2_16)] [] [0, 1, 2, 3, 4, 5, 6, 7, 8, 9, 10, 11] (m_least l g r_44 199) dX11_exact_68 mw839 mw840 mw5 mw841 yk_yX11_least_2 rfl (Nat.le_of_ble_eq_true rfl) (Nat.le_of_ble_eq_true rfl) (Nat.le_of_ble_eq_true rfl) (Nat.le_of_ble_eq_true rfl) (Nat.le_of_ble_eq_true rfl) rfl rfl (by decide +kernel) rfl (by decide +kernel) (by decide +kernel) ?_
        rintro r_45 w rfl
        refine k_ws [(cAI g a_begin 8 d_begin2_12), (cAI g a_motor 8 d_motor2_18), (cAI g a_change 8 d_change2_14), (cAI g a_startFrame 8 d_startFrame2_20), (cAI g a_changeFrame 8 d_changeFrame2_15), (cAI g a_lostAt 8 d_lostAt2_17), (cAI g a_blackAt 8 d_blackAt2_13), (cAI g a_slips 8 d_slips2_19), (cO11_i1r1i10r1i2r5i2r12i3r4i2 h0 m_thrown2_1 a_tape m_taped m_size m_at m_end m_token m_whole m_nameSize m_fault m_place m_trouble2_2 a_letters m_failed m_hasHouse a_r a_fresh a_st a_undone a_kept m_undos m_images a_from a_begin a_motor a_change a_startFrame a_changeFrame a_lostAt a_blackAt a_slips a_leftArc a_died a_arcs m_bestSum m_nearest m_nearestTown a_there a_backAt a_sorted a_parts m_seed1 m_darkNow), (cAI g a_r 311 d_r), (cAI g a_st 44 d_st), (cAI g a_from 8 d_from2_16)] rfl ?_
        exact k_iret X hr dX11_exact_71 (Nat.le_of_ble_eq_true rfl) (Nat.le_of_ble_eq_true rfl) [8, 9, 10, 11, 0, 1, 2, 3, 4, 5, 6, 7] (by decide) rfl rfl ⟨d_begin2_12, d_blackAt2_13, d_change2_14, d_changeFrame2_15, d_from2_16, d_lostAt2_17, d_motor2_18, d_slips2_19, d_startFrame2_20, m_thrown2_1, m_trouble2_2, rfl⟩
      · skip
        have iv_46 : IV r_33 1 1 := iv_neL h_35 iv_34 (show IV 0 0 0 from (by decide)) (by decide)
        refine k_bipush (v := -2) X dX11_exact_34 (by decide) ?_
        exact k_iret X hr dX11_exact_36 (Nat.le_of_ble_eq_true rfl) (Nat.le_of_ble_eq_true rfl) [8, 9, 10, 11, 0, 1, 2, 3, 4, 5, 6, 7] (by decide) rfl rfl ⟨d_begin2_12, d_blackAt2_13, d_change2_14, d_changeFrame2_15, d_from2_16, d_lostAt2_17, d_motor2_18, d_slips2_19, d_startFrame2_20, m_thrown2_1, m_trouble2_2, rfl⟩
    · skip
      have iv_47 : IV r_21 0 0 := iv_meet iv_22 (iv_e h_24 (show IV 0 0 0 from (by decide))) (by decide) (by decide)
      refine k_aload_n X dX11_exact_18 0 rfl ?_
      refine k_iconst (v := 1) X dX11_exact_19 (by decide) ?_
      refine k_callVI (n := 1) (As := [.int 1]) (st := []) X [(cO11_i1r1i10r1i2r5i2r12i3r4i2 h0 m_thrown2_1 a_tape m_taped m_size m_at m_end m_token m_whole m_nameSize m_fault m_place m_trouble2_2 a_letters m_failed m_hasHouse a_r a_fresh a_st a_undone a_kept m_undos m_images a_from a_begin a_motor a_change a_startFrame a_changeFrame a_lostAt a_blackAt a_slips a_leftArc a_died a_arcs m_bestSum m_nearest m_nearestTown a_there a_backAt a_sorted a_parts m_seed1 m_darkNow)] [(cAI g a_r 311 d_r), (cAI g a_st 44 d_st), (cAI g a_from 8 d_from2_16), (cAI g a_begin 8 d_begin2_12), (cAI g a_motor 8 d_motor2_18), (cAI g a_change 8 d_change2_14), (cAI g a_startFrame 8 d_startFrame2_20), (cAI g a_changeFrame 8 d_changeFrame2_15), (cAI g a_lostAt 8 d_lostAt2_17), (cAI g a_blackAt 8 d_blackAt2_13), (cAI g a_slips 8 d_slips2_19)] [0] [1, 2, 3, 4, 5, 6, 7, 8, 9, 10, 11] (m_no l g h0 1 m_thrown2_1 a_tape m_taped m_size m_at m_end m_token m_whole m_nameSize m_fault m_place m_trouble2_2 a_letters m_failed m_hasHouse a_r a_fresh a_st a_undone a_kept m_undos m_images a_from a_begin a_motor a_change a_startFrame a_changeFrame a_lostAt a_blackAt a_slips a_leftArc a_died a_arcs m_bestSum m_nearest m_nearestTown a_there a_backAt a_sorted a_parts m_seed1 m_darkNow) dX11_exact_20 mw485 mw486 mw487 mw5 mw488 rfl 11 rfl rfl 0 _ rfl yk_yX11_no_1 rfl (Nat.le_of_ble_eq_true rfl) (Nat.le_of_ble_eq_true rfl) (Nat.le_of_ble_eq_true rfl) (Nat.le_of_ble_eq_true rfl) (Nat.le_of_ble_eq_true rfl) rfl rfl (by decide +kernel) rfl (by decide +kernel) (by decide +kernel) ?_
      rintro r_49 w ⟨m_trouble2_48, iv_50, rfl⟩
      refine k_ws [(cAI g a_r 311 d_r), (cAI g a_st 44 d_st), (cAI g a_from 8 d_from2_16), (cAI g a_begin 8 d_begin2_12), (cAI g a_motor 8 d_motor2_18), (cAI g a_change 8 d_change2_14), (cAI g a_startFrame 8 d_startFrame2_20), (cAI g a_changeFrame 8 d_changeFrame2_15), (cAI g a_lostAt 8 d_lostAt2_17), (cAI g a_blackAt 8 d_blackAt2_13), (cAI g a_slips 8 d_slips2_19), (cO11_i1r1i10r1i2r5i2r12i3r4i2 h0 m_thrown2_1 a_tape m_taped m_size m_at m_end m_token m_whole m_nameSize m_fault m_place m_trouble2_48 a_letters m_failed m_hasHouse a_r a_fresh a_st a_undone a_kept m_undos m_images a_from a_begin a_motor a_change a_startFrame a_changeFrame a_lostAt a_blackAt a_slips a_leftArc a_died a_arcs m_bestSum m_nearest m_nearestTown a_there a_backAt a_sorted a_parts m_seed1 m_darkNow)] rfl ?_
      exact k_iret X hr dX11_exact_23 (Nat.le_of_ble_eq_true rfl) (Nat.le_of_ble_eq_true rfl) [11, 0, 1, 2, 3, 4, 5, 6, 7, 8, 9, 10] (by decide) rfl rfl ⟨d_begin2_12, d_blackAt2_13, d_change2_14, d_changeFrame2_15, d_from2_16, d_lostAt2_17, d_motor2_18, d_slips2_19, d_startFrame2_20, m_thrown2_1, m_trouble2_48, rfl⟩

theorem dX11_needsOf_0 : decode cX11_needsOf 0 = .ok (.aload_n 0, 1) := dk_42 rfl
theorem dX11_needsOf_1 : decode cX11_needsOf 1 = .ok (.getfield 44, 3) := dk_180 rfl rfl rfl rfl
theorem dX11_needsOf_4 : decode cX11_needsOf 4 = .ok (.iload_n 1, 1) := dk_27 rfl
theorem dX11_needsOf_5 : decode cX11_needsOf 5 = .ok (.iaload, 1) := dk_46 rfl
theorem dX11_needsOf_6 : decode cX11_needsOf 6 = .ok (.aload_n 0, 1) := dk_42 rfl
theorem dX11_needsOf_7 : decode cX11_needsOf 7 = .ok (.getfield 41, 3) := dk_180 rfl rfl rfl rfl
theorem dX11_needsOf_10 : decode cX11_needsOf 10 = .ok (.iload_n 1, 1) := dk_27 rfl
theorem dX11_needsOf_11 : decode cX11_needsOf 11 = .ok (.iaload, 1) := dk_46 rfl
theorem dX11_needsOf_12 : decode cX11_needsOf 12 = .ok (.isub, 1) := dk_100 rfl
theorem dX11_needsOf_13 : decode cX11_needsOf 13 = .ok (.ireturn, 1) := dk_172 rfl
set_option maxHeartbeats 4000000 in
set_option maxRecDepth 100000 in
theorem m_needsOf (l : Launch) (g : Gx) (h0 : Nat) (p0 : Int32) (m_thrown : Int32) (a_tape : Nat) (m_taped : Int32) (m_size : Int32) (m_at : Int32) (m_end : Int32) (m_token : Int32) (m_whole : Int32) (m_nameSize : Int32) (m_fault : Int32) (m_place : Int32) (m_trouble : Int32) (a_letters : Nat) (m_failed : Int32) (m_hasHouse : Int32) (a_r : Nat) (a_fresh : Nat) (a_st : Nat) (a_undone : Nat) (a_kept : Nat) (m_undos : Int32) (m_images : Int32) (a_from : Nat) (a_begin : Nat) (a_motor : Nat) (a_change : Nat) (a_startFrame : Nat) (a_changeFrame : Nat) (a_lostAt : Nat) (a_blackAt : Nat) (a_slips : Nat) (a_leftArc : Nat) (a_died : Nat) (a_arcs : Nat) (m_bestSum : Int32) (m_nearest : Int32) (m_nearestTown : Int32) (a_there : Nat) (a_backAt : Nat) (a_sorted : Nat) (a_parts : Nat) (m_seed1 : Int32) (m_darkNow : Int32) (d_motor : Nat → Int32) (d_change : Nat → Int32) (hv_p0 : IV p0 0 7) : cI l g yX11_needsOf cX11_needsOf 2 (some .int) 0 0 0 0 [.ref h0, .int p0] [(cO11_i1r1i10r1i2r5i2r12i3r4i2 h0 m_thrown a_tape m_taped m_size m_at m_end m_token m_whole m_nameSize m_fault m_place m_trouble a_letters m_failed m_hasHouse a_r a_fresh a_st a_undone a_kept m_undos m_images a_from a_begin a_motor a_change a_startFrame a_changeFrame a_lostAt a_blackAt a_slips a_leftArc a_died a_arcs m_bestSum m_nearest m_nearestTown a_there a_backAt a_sorted a_parts m_seed1 m_darkNow), (cAI g a_motor 8 d_motor), (cAI g a_change 8 d_change)] (fun r w => w = [(cO11_i1r1i10r1i2r5i2r12i3r4i2 h0 m_thrown a_tape m_taped m_size m_at m_end m_token m_whole m_nameSize m_fault m_place m_trouble a_letters m_failed m_hasHouse a_r a_fresh a_st a_undone a_kept m_undos m_images a_from a_begin a_motor a_change a_startFrame a_changeFrame a_lostAt a_blackAt a_slips a_leftArc a_died a_arcs m_bestSum m_nearest m_nearestTown a_there a_backAt a_sorted a_parts m_seed1 m_darkNow), (cAI g a_motor 8 d_motor), (cAI g a_change 8 d_change)]) := by
  refine cI.of (by decide) (Nat.le_of_ble_eq_true rfl) ?_
  intro p e s m args below meth c A X hr hi
  refine k_lveq [(0, .ref h0), (1, .int p0)] rfl ?_
  refine k_aload_n X dX11_needsOf_0 0 rfl ?_
  refine k_get (ci := 11) X inlX11 rfl 25 (by decide) dX11_needsOf_1 mw178 0 rfl rfl ?_
  refine k_iload_n X dX11_needsOf_4 1 rfl ?_
  refine k_iald X dX11_needsOf_5 2 rfl (iv_in hv_p0 (by decide) (by decide)) ?_
  refine k_nm (fun z_1 ez_1 => ?_)
  refine k_aload_n X dX11_needsOf_6 0 rfl ?_
  refine k_get (ci := 11) X inlX11 rfl 24 (by decide) dX11_needsOf_7 mw177 0 rfl rfl ?_
  refine k_iload_n X dX11_needsOf_10 1 rfl ?_
  refine k_iald X dX11_needsOf_11 1 rfl (iv_in hv_p0 (by decide) (by decide)) ?_
  refine k_nm (fun z_2 ez_2 => ?_)
  refine k_isub X dX11_needsOf_12 ?_
  refine k_nm (fun z_3 ez_3 => ?_)
  exact k_iret X hr dX11_needsOf_13 (Nat.le_of_ble_eq_true rfl) (Nat.le_of_ble_eq_true rfl) [0, 1, 2] (by decide) rfl rfl rfl

theorem dX11_freeOf_0 : decode cX11_freeOf 0 = .ok (.iload_n 1, 1) := dk_27 rfl
theorem dX11_freeOf_1 : decode cX11_freeOf 1 = .ok (.iconst 2, 1) := dk_5 rfl
theorem dX11_freeOf_2 : decode cX11_freeOf 2 = .ok (.if_icmp .ge 8, 3) := dk_162 rfl rfl rfl (by decide)
theorem dX11_freeOf_5 : decode cX11_freeOf 5 = .ok (.bipush (-2), 2) := dk_16 rfl rfl (by decide)
theorem dX11_freeOf_7 : decode cX11_freeOf 7 = .ok (.goto 18, 3) := dk_167 rfl rfl rfl (by decide)
theorem dX11_freeOf_10 : decode cX11_freeOf 10 = .ok (.aload_n 0, 1) := dk_42 rfl
theorem dX11_freeOf_11 : decode cX11_freeOf 11 = .ok (.getfield 41, 3) := dk_180 rfl rfl rfl rfl
theorem dX11_freeOf_14 : decode cX11_freeOf 14 = .ok (.iload_n 1, 1) := dk_27 rfl
theorem dX11_freeOf_15 : decode cX11_freeOf 15 = .ok (.iaload, 1) := dk_46 rfl
theorem dX11_freeOf_16 : decode cX11_freeOf 16 = .ok (.aload_n 0, 1) := dk_42 rfl
theorem dX11_freeOf_17 : decode cX11_freeOf 17 = .ok (.getfield 44, 3) := dk_180 rfl rfl rfl rfl
theorem dX11_freeOf_20 : decode cX11_freeOf 20 = .ok (.iload_n 1, 1) := dk_27 rfl
theorem dX11_freeOf_21 : decode cX11_freeOf 21 = .ok (.iconst 2, 1) := dk_5 rfl
theorem dX11_freeOf_22 : decode cX11_freeOf 22 = .ok (.isub, 1) := dk_100 rfl
theorem dX11_freeOf_23 : decode cX11_freeOf 23 = .ok (.iaload, 1) := dk_46 rfl
theorem dX11_freeOf_24 : decode cX11_freeOf 24 = .ok (.isub, 1) := dk_100 rfl
theorem dX11_freeOf_25 : decode cX11_freeOf 25 = .ok (.ireturn, 1) := dk_172 rfl
set_option maxHeartbeats 4000000 in
set_option maxRecDepth 100000 in
theorem m_freeOf (l : Launch) (g : Gx) (h0 : Nat) (p0 : Int32) (m_thrown : Int32) (a_tape : Nat) (m_taped : Int32) (m_size : Int32) (m_at : Int32) (m_end : Int32) (m_token : Int32) (m_whole : Int32) (m_nameSize : Int32) (m_fault : Int32) (m_place : Int32) (m_trouble : Int32) (a_letters : Nat) (m_failed : Int32) (m_hasHouse : Int32) (a_r : Nat) (a_fresh : Nat) (a_st : Nat) (a_undone : Nat) (a_kept : Nat) (m_undos : Int32) (m_images : Int32) (a_from : Nat) (a_begin : Nat) (a_motor : Nat) (a_change : Nat) (a_startFrame : Nat) (a_changeFrame : Nat) (a_lostAt : Nat) (a_blackAt : Nat) (a_slips : Nat) (a_leftArc : Nat) (a_died : Nat) (a_arcs : Nat) (m_bestSum : Int32) (m_nearest : Int32) (m_nearestTown : Int32) (a_there : Nat) (a_backAt : Nat) (a_sorted : Nat) (a_parts : Nat) (m_seed1 : Int32) (m_darkNow : Int32) (d_motor : Nat → Int32) (d_change : Nat → Int32) (hv_p0 : IV p0 0 7) : cI l g yX11_freeOf cX11_freeOf 2 (some .int) 0 0 0 0 [.ref h0, .int p0] [(cO11_i1r1i10r1i2r5i2r12i3r4i2 h0 m_thrown a_tape m_taped m_size m_at m_end m_token m_whole m_nameSize m_fault m_place m_trouble a_letters m_failed m_hasHouse a_r a_fresh a_st a_undone a_kept m_undos m_images a_from a_begin a_motor a_change a_startFrame a_changeFrame a_lostAt a_blackAt a_slips a_leftArc a_died a_arcs m_bestSum m_nearest m_nearestTown a_there a_backAt a_sorted a_parts m_seed1 m_darkNow), (cAI g a_motor 8 d_motor), (cAI g a_change 8 d_change)] (fun r w => w = [(cO11_i1r1i10r1i2r5i2r12i3r4i2 h0 m_thrown a_tape m_taped m_size m_at m_end m_token m_whole m_nameSize m_fault m_place m_trouble a_letters m_failed m_hasHouse a_r a_fresh a_st a_undone a_kept m_undos m_images a_from a_begin a_motor a_change a_startFrame a_changeFrame a_lostAt a_blackAt a_slips a_leftArc a_died a_arcs m_bestSum m_nearest m_nearestTown a_there a_backAt a_sorted a_parts m_seed1 m_darkNow), (cAI g a_motor 8 d_motor), (cAI g a_change 8 d_change)]) := by
  refine cI.of (by decide) (Nat.le_of_ble_eq_true rfl) ?_
  intro p e s m args below meth c A X hr hi
  refine k_lveq [(0, .ref h0), (1, .int p0)] rfl ?_
  refine k_iload_n X dX11_freeOf_0 1 rfl ?_
  refine k_iconst (v := 2) X dX11_freeOf_1 (by decide) ?_
  refine k_ic_ge 10 X dX11_freeOf_2 (by decide) (fun h_1 => ?_) (fun h_1 => ?_)
  · skip
    have j_2 : 2 ≤ p0.toInt := iv_le h_1
    have iv_3 : IV p0 2 7 := iv_leR (iv_le h_1) (show IV 2 2 2 from (by decide)) hv_p0 (by decide)
    refine k_aload_n X dX11_freeOf_10 0 rfl ?_
    refine k_get (ci := 11) X inlX11 rfl 24 (by decide) dX11_freeOf_11 mw177 0 rfl rfl ?_
    refine k_iload_n X dX11_freeOf_14 1 rfl ?_
    refine k_iald X dX11_freeOf_15 1 rfl (iv_in iv_3 (by decide) (by decide)) ?_
    refine k_nm (fun z_4 ez_4 => ?_)
    refine k_aload_n X dX11_freeOf_16 0 rfl ?_
    refine k_get (ci := 11) X inlX11 rfl 25 (by decide) dX11_freeOf_17 mw178 0 rfl rfl ?_
    refine k_iload_n X dX11_freeOf_20 1 rfl ?_
    refine k_iconst (v := 2) X dX11_freeOf_21 (by decide) ?_
    refine k_isub X dX11_freeOf_22 ?_
    refine k_nm (fun z_5 ez_5 => ?_)
    have i_6 : z_5.toInt = p0.toInt - 2 := in_sub ez_5 iv_3 (show IV 2 2 2 from (by decide)) (by decide) (by decide)
    have iv_7 : IV z_5 0 5 := iz5 i_6 iv_3 (by decide) (by decide)
    refine k_iald X dX11_freeOf_23 2 rfl (iv_in iv_7 (by decide) (by decide)) ?_
    refine k_nm (fun z_8 ez_8 => ?_)
    refine k_isub X dX11_freeOf_24 ?_
    refine k_nm (fun z_9 ez_9 => ?_)
    exact k_iret X hr dX11_freeOf_25 (Nat.le_of_ble_eq_true rfl) (Nat.le_of_ble_eq_true rfl) [0, 1, 2] (by decide) rfl rfl rfl
  · skip
    have j_11 : p0.toInt < 2 := iv_nle h_1
    have iv_12 : IV p0 0 1 := iv_ltL (iv_nle h_1) hv_p0 (show IV 2 2 2 from (by decide)) (by decide)
    refine k_bipush (v := -2) X dX11_freeOf_5 (by decide) ?_
    refine k_goto 25 X dX11_freeOf_7 (by decide) ?_
    exact k_iret X hr dX11_freeOf_25 (Nat.le_of_ble_eq_true rfl) (Nat.le_of_ble_eq_true rfl) [0, 1, 2] (by decide) rfl rfl rfl

theorem dX11_burn_0 : decode cX11_burn 0 = .ok (.iconst 1, 1) := dk_4 rfl
theorem dX11_burn_1 : decode cX11_burn 1 = .ok (.istore_n 2, 1) := dk_61 rfl
theorem dX11_burn_2 : decode cX11_burn 2 = .ok (.aload_n 0, 1) := dk_42 rfl
theorem dX11_burn_3 : decode cX11_burn 3 = .ok (.getfield 68, 3) := dk_180 rfl rfl rfl rfl
theorem dX11_burn_6 : decode cX11_burn 6 = .ok (.iconst 0, 1) := dk_3 rfl
theorem dX11_burn_7 : decode cX11_burn 7 = .ok (.aload_n 0, 1) := dk_42 rfl
theorem dX11_burn_8 : decode cX11_burn 8 = .ok (.getfield 20, 3) := dk_180 rfl rfl rfl rfl
theorem dX11_burn_11 : decode cX11_burn 11 = .ok (.iconst 3, 1) := dk_6 rfl
theorem dX11_burn_12 : decode cX11_burn 12 = .ok (.iaload, 1) := dk_46 rfl
theorem dX11_burn_13 : decode cX11_burn 13 = .ok (.iastore, 1) := dk_79 rfl
theorem dX11_burn_14 : decode cX11_burn 14 = .ok (.aload_n 0, 1) := dk_42 rfl
theorem dX11_burn_15 : decode cX11_burn 15 = .ok (.getfield 68, 3) := dk_180 rfl rfl rfl rfl
theorem dX11_burn_18 : decode cX11_burn 18 = .ok (.iconst 1, 1) := dk_4 rfl
theorem dX11_burn_19 : decode cX11_burn 19 = .ok (.aload_n 0, 1) := dk_42 rfl
theorem dX11_burn_20 : decode cX11_burn 20 = .ok (.getfield 20, 3) := dk_180 rfl rfl rfl rfl
theorem dX11_burn_23 : decode cX11_burn 23 = .ok (.iconst 3, 1) := dk_6 rfl
theorem dX11_burn_24 : decode cX11_burn 24 = .ok (.iaload, 1) := dk_46 rfl
theorem dX11_burn_25 : decode cX11_burn 25 = .ok (.iastore, 1) := dk_79 rfl
theorem dX11_burn_26 : decode cX11_burn 26 = .ok (.iconst 0, 1) := dk_3 rfl
theorem dX11_burn_27 : decode cX11_burn 27 = .ok (.istore_n 3, 1) := dk_62 rfl
theorem dX11_burn_28 : decode cX11_burn 28 = .ok (.iload_n 3, 1) := dk_29 rfl
theorem dX11_burn_29 : decode cX11_burn 29 = .ok (.aload_n 0, 1) := dk_42 rfl
theorem dX11_burn_30 : decode cX11_burn 30 = .ok (.getfield 20, 3) := dk_180 rfl rfl rfl rfl
theorem dX11_burn_33 : decode cX11_burn 33 = .ok (.bipush 12, 2) := dk_16 rfl rfl (by decide)
theorem dX11_burn_35 : decode cX11_burn 35 = .ok (.iaload, 1) := dk_46 rfl
theorem dX11_burn_36 : decode cX11_burn 36 = .ok (.if_icmp .ge 154, 3) := dk_162 rfl rfl rfl (by decide)
theorem dX11_burn_39 : decode cX11_burn 39 = .ok (.iload_n 3, 1) := dk_29 rfl
theorem dX11_burn_40 : decode cX11_burn 40 = .ok (.iconst 2, 1) := dk_5 rfl
theorem dX11_burn_41 : decode cX11_burn 41 = .ok (.irem, 1) := dk_112 rfl
theorem dX11_burn_42 : decode cX11_burn 42 = .ok (.istore 4, 2) := dk_54 rfl rfl rfl
theorem dX11_burn_44 : decode cX11_burn 44 = .ok (.iload_n 1, 1) := dk_27 rfl
theorem dX11_burn_45 : decode cX11_burn 45 = .ok (.iload_n 3, 1) := dk_29 rfl
theorem dX11_burn_46 : decode cX11_burn 46 = .ok (.invokestatic 320, 3) := dk_184 rfl rfl rfl rfl
theorem dX11_burn_49 : decode cX11_burn 49 = .ok (.ifCond .eq 35, 3) := dk_153 rfl rfl rfl (by decide)
theorem dX11_burn_52 : decode cX11_burn 52 = .ok (.iload_n 3, 1) := dk_29 rfl
theorem dX11_burn_53 : decode cX11_burn 53 = .ok (.iconst 2, 1) := dk_5 rfl
theorem dX11_burn_54 : decode cX11_burn 54 = .ok (.if_icmp .lt 17, 3) := dk_161 rfl rfl rfl (by decide)
theorem dX11_burn_57 : decode cX11_burn 57 = .ok (.aload_n 0, 1) := dk_42 rfl
theorem dX11_burn_58 : decode cX11_burn 58 = .ok (.iload_n 3, 1) := dk_29 rfl
theorem dX11_burn_59 : decode cX11_burn 59 = .ok (.invokevirtual 385, 3) := dk_182 rfl rfl rfl rfl
theorem dX11_burn_62 : decode cX11_burn 62 = .ok (.aload_n 0, 1) := dk_42 rfl
theorem dX11_burn_63 : decode cX11_burn 63 = .ok (.getfield 20, 3) := dk_180 rfl rfl rfl rfl
theorem dX11_burn_66 : decode cX11_burn 66 = .ok (.iconst 4, 1) := dk_7 rfl
theorem dX11_burn_67 : decode cX11_burn 67 = .ok (.iaload, 1) := dk_46 rfl
theorem dX11_burn_68 : decode cX11_burn 68 = .ok (.if_icmp .lt 16, 3) := dk_161 rfl rfl rfl (by decide)
theorem dX11_burn_71 : decode cX11_burn 71 = .ok (.aload_n 0, 1) := dk_42 rfl
theorem dX11_burn_72 : decode cX11_burn 72 = .ok (.getfield 68, 3) := dk_180 rfl rfl rfl rfl
theorem dX11_burn_75 : decode cX11_burn 75 = .ok (.iload 4, 2) := dk_21 rfl rfl rfl
theorem dX11_burn_77 : decode cX11_burn 77 = .ok (.aload_n 0, 1) := dk_42 rfl
theorem dX11_burn_78 : decode cX11_burn 78 = .ok (.getfield 20, 3) := dk_180 rfl rfl rfl rfl
theorem dX11_burn_81 : decode cX11_burn 81 = .ok (.iconst 3, 1) := dk_6 rfl
theorem dX11_burn_82 : decode cX11_burn 82 = .ok (.iaload, 1) := dk_46 rfl
theorem dX11_burn_83 : decode cX11_burn 83 = .ok (.iastore, 1) := dk_79 rfl
theorem dX11_burn_84 : decode cX11_burn 84 = .ok (.aload_n 0, 1) := dk_42 rfl
theorem dX11_burn_85 : decode cX11_burn 85 = .ok (.getfield 68, 3) := dk_180 rfl rfl rfl rfl
theorem dX11_burn_88 : decode cX11_burn 88 = .ok (.iload 4, 2) := dk_21 rfl rfl rfl
theorem dX11_burn_90 : decode cX11_burn 90 = .ok (.iaload, 1) := dk_46 rfl
theorem dX11_burn_91 : decode cX11_burn 91 = .ok (.aload_n 0, 1) := dk_42 rfl
theorem dX11_burn_92 : decode cX11_burn 92 = .ok (.iload_n 3, 1) := dk_29 rfl
theorem dX11_burn_93 : decode cX11_burn 93 = .ok (.invokevirtual 388, 3) := dk_182 rfl rfl rfl rfl
theorem dX11_burn_96 : decode cX11_burn 96 = .ok (.if_icmp .ge 7, 3) := dk_162 rfl rfl rfl (by decide)
theorem dX11_burn_99 : decode cX11_burn 99 = .ok (.iconst 1, 1) := by decide +kernel
theorem dX11_burn_100 : decode cX11_burn 100 = .ok (.goto 4, 3) := by decide +kernel
theorem dX11_burn_103 : decode cX11_burn 103 = .ok (.iconst 0, 1) := by decide +kernel
theorem dX11_burn_104 : decode cX11_burn 104 = .ok (.istore 5, 2) := by decide +kernel
theorem dX11_burn_106 : decode cX11_burn 106 = .ok (.aload_n 0, 1) := by decide +kernel
theorem dX11_burn_107 : decode cX11_burn 107 = .ok (.getfield 65, 3) := by decide +kernel
theorem dX11_burn_110 : decode cX11_burn 110 = .ok (.iload_n 3, 1) := by decide +kernel
theorem dX11_burn_111 : decode cX11_burn 111 = .ok (.iload 5, 2) := by decide +kernel
theorem dX11_burn_113 : decode cX11_burn 113 = .ok (.ifCond .eq 7, 3) := by decide +kernel
theorem dX11_burn_116 : decode cX11_burn 116 = .ok (.iconst 1, 1) := by decide +kernel
theorem dX11_burn_117 : decode cX11_burn 117 = .ok (.goto 4, 3) := by decide +kernel
theorem dX11_burn_120 : decode cX11_burn 120 = .ok (.iconst 0, 1) := by decide +kernel
theorem dX11_burn_121 : decode cX11_burn 121 = .ok (.iastore, 1) := by decide +kernel
theorem dX11_burn_122 : decode cX11_burn 122 = .ok (.aload_n 0, 1) := by decide +kernel
theorem dX11_burn_123 : decode cX11_burn 123 = .ok (.getfield 68, 3) := by decide +kernel
theorem dX11_burn_126 : decode cX11_burn 126 = .ok (.iload 4, 2) := by decide +kernel
theorem dX11_burn_128 : decode cX11_burn 128 = .ok (.iload 5, 2) := by decide +kernel
theorem dX11_burn_130 : decode cX11_burn 130 = .ok (.ifCond .eq 12, 3) := by decide +kernel
theorem dX11_burn_133 : decode cX11_burn 133 = .ok (.aload_n 0, 1) := by decide +kernel
theorem dX11_burn_134 : decode cX11_burn 134 = .ok (.getfield 20, 3) := by decide +kernel
theorem dX11_burn_137 : decode cX11_burn 137 = .ok (.iconst 3, 1) := by decide +kernel
theorem dX11_burn_138 : decode cX11_burn 138 = .ok (.iaload, 1) := by decide +kernel
theorem dX11_burn_139 : decode cX11_burn 139 = .ok (.goto 16, 3) := by decide +kernel
theorem dX11_burn_142 : decode cX11_burn 142 = .ok (.aload_n 0, 1) := by decide +kernel
theorem dX11_burn_143 : decode cX11_burn 143 = .ok (.getfield 68, 3) := by decide +kernel
theorem dX11_burn_146 : decode cX11_burn 146 = .ok (.iload 4, 2) := by decide +kernel
theorem dX11_burn_148 : decode cX11_burn 148 = .ok (.iaload, 1) := by decide +kernel
theorem dX11_burn_149 : decode cX11_burn 149 = .ok (.aload_n 0, 1) := by decide +kernel
theorem dX11_burn_150 : decode cX11_burn 150 = .ok (.iload_n 3, 1) := by decide +kernel
theorem dX11_burn_151 : decode cX11_burn 151 = .ok (.invokevirtual 388, 3) := by decide +kernel
theorem dX11_burn_154 : decode cX11_burn 154 = .ok (.isub, 1) := by decide +kernel
theorem dX11_burn_155 : decode cX11_burn 155 = .ok (.iastore, 1) := by decide +kernel
theorem dX11_burn_156 : decode cX11_burn 156 = .ok (.aload_n 0, 1) := by decide +kernel
theorem dX11_burn_157 : decode cX11_burn 157 = .ok (.getfield 62, 3) := by decide +kernel
theorem dX11_burn_160 : decode cX11_burn 160 = .ok (.iload_n 3, 1) := by decide +kernel
theorem dX11_burn_161 : decode cX11_burn 161 = .ok (.aload_n 0, 1) := by decide +kernel
theorem dX11_burn_162 : decode cX11_burn 162 = .ok (.getfield 68, 3) := by decide +kernel
theorem dX11_burn_165 : decode cX11_burn 165 = .ok (.iload 4, 2) := by decide +kernel
theorem dX11_burn_167 : decode cX11_burn 167 = .ok (.iaload, 1) := by decide +kernel
theorem dX11_burn_168 : decode cX11_burn 168 = .ok (.iastore, 1) := by decide +kernel
theorem dX11_burn_169 : decode cX11_burn 169 = .ok (.iload_n 2, 1) := by decide +kernel
theorem dX11_burn_170 : decode cX11_burn 170 = .ok (.ifCond .eq 12, 3) := by decide +kernel
theorem dX11_burn_173 : decode cX11_burn 173 = .ok (.iload 5, 2) := by decide +kernel
theorem dX11_burn_175 : decode cX11_burn 175 = .ok (.ifCond .ne 7, 3) := by decide +kernel
theorem dX11_burn_178 : decode cX11_burn 178 = .ok (.iconst 1, 1) := by decide +kernel
theorem dX11_burn_179 : decode cX11_burn 179 = .ok (.goto 4, 3) := by decide +kernel
theorem dX11_burn_182 : decode cX11_burn 182 = .ok (.iconst 0, 1) := by decide +kernel
theorem dX11_burn_183 : decode cX11_burn 183 = .ok (.istore_n 2, 1) := by decide +kernel
theorem dX11_burn_184 : decode cX11_burn 184 = .ok (.iinc 3 1, 3) := by decide +kernel
theorem dX11_burn_187 : decode cX11_burn 187 = .ok (.goto (-159), 3) := by decide +kernel
theorem dX11_burn_190 : decode cX11_burn 190 = .ok (.iload_n 2, 1) := by decide +kernel
theorem dX11_burn_191 : decode cX11_burn 191 = .ok (.ireturn, 1) := by decide +kernel
set_option maxHeartbeats 4000000 in
set_option maxRecDepth 100000 in
theorem m_burn (l : Launch) (g : Gx) (h0 : Nat) (p0 : Int32) (m_thrown : Int32) (a_tape : Nat) (m_taped : Int32) (m_size : Int32) (m_at : Int32) (m_end : Int32) (m_token : Int32) (m_whole : Int32) (m_nameSize : Int32) (m_fault : Int32) (m_place : Int32) (m_trouble : Int32) (a_letters : Nat) (m_failed : Int32) (m_hasHouse : Int32) (a_r : Nat) (a_fresh : Nat) (a_st : Nat) (a_undone : Nat) (a_kept : Nat) (m_undos : Int32) (m_images : Int32) (a_from : Nat) (a_begin : Nat) (a_motor : Nat) (a_change : Nat) (a_startFrame : Nat) (a_changeFrame : Nat) (a_lostAt : Nat) (a_blackAt : Nat) (a_slips : Nat) (a_leftArc : Nat) (a_died : Nat) (a_arcs : Nat) (m_bestSum : Int32) (m_nearest : Int32) (m_nearestTown : Int32) (a_there : Nat) (a_backAt : Nat) (a_sorted : Nat) (a_parts : Nat) (m_seed1 : Int32) (m_darkNow : Int32) (d_r : Nat → Int32) (d_motor : Nat → Int32) (d_change : Nat → Int32) (d_leftArc : Nat → Int32) (d_died : Nat → Int32) (d_arcs : Nat → Int32) (hp_d_r : RInv d_r) : cI l g yX11_burn cX11_burn 6 (some .boolean) 1 21 0 0 [.ref h0, .int p0] [(cO11_i1r1i10r1i2r5i2r12i3r4i2 h0 m_thrown a_tape m_taped m_size m_at m_end m_token m_whole m_nameSize m_fault m_place m_trouble a_letters m_failed m_hasHouse a_r a_fresh a_st a_undone a_kept m_undos m_images a_from a_begin a_motor a_change a_startFrame a_changeFrame a_lostAt a_blackAt a_slips a_leftArc a_died a_arcs m_bestSum m_nearest m_nearestTown a_there a_backAt a_sorted a_parts m_seed1 m_darkNow), (cAI g a_r 311 d_r), (cAI g a_motor 8 d_motor), (cAI g a_change 8 d_change), (cAI g a_leftArc 8 d_leftArc), (cAI g a_died 8 d_died), (cAI g a_arcs 2 d_arcs)] (fun r w => ∃ (d_arcs2 : Nat → Int32) (d_died2 : Nat → Int32) (d_leftArc2 : Nat → Int32), IV r 0 1 ∧ w = [(cO11_i1r1i10r1i2r5i2r12i3r4i2 h0 m_thrown a_tape m_taped m_size m_at m_end m_token m_whole m_nameSize m_fault m_place m_trouble a_letters m_failed m_hasHouse a_r a_fresh a_st a_undone a_kept m_undos m_images a_from a_begin a_motor a_change a_startFrame a_changeFrame a_lostAt a_blackAt a_slips a_leftArc a_died a_arcs m_bestSum m_nearest m_nearestTown a_there a_backAt a_sorted a_parts m_seed1 m_darkNow), (cAI g a_r 311 d_r), (cAI g a_motor 8 d_motor), (cAI g a_change 8 d_change), (cAI g a_leftArc 8 d_leftArc2), (cAI g a_died 8 d_died2), (cAI g a_arcs 2 d_arcs2)]) := by
  refine cI.of (by decide) (Nat.le_of_ble_eq_true rfl) ?_
  intro p e s m args below meth c A X hr hi
  refine k_lveq [(0, .ref h0), (1, .int p0)] rfl ?_
  refine k_iconst (v := 1) X dX11_burn_0 (by decide) ?_
  refine k_istore_n [(2, .int 1), (0, .ref h0), (1, .int p0)] X dX11_burn_1 (by decide) rfl ?_
  refine k_aload_n X dX11_burn_2 1 rfl ?_
  refine k_get (ci := 11) X inlX11 rfl 33 (by decide) dX11_burn_3 mw186 0 rfl rfl ?_
  refine k_iconst (v := 0) X dX11_burn_6 (by decide) ?_
  refine k_aload_n X dX11_burn_7 1 rfl ?_
  refine k_get (ci := 11) X inlX11 rfl 15 (by decide) dX11_burn_8 mw170 0 rfl rfl ?_
  refine k_iconst (v := 3) X dX11_burn_11 (by decide) ?_
  refine k_iald X dX11_burn_12 1 rfl (by unfold vp_in; decide) ?_
  refine k_nm (fun z_1 ez_1 => ?_)
  refine k_iast [(cO11_i1r1i10r1i2r5i2r12i3r4i2 h0 m_thrown a_tape m_taped m_size m_at m_end m_token m_whole m_nameSize m_fault m_place m_trouble a_letters m_failed m_hasHouse a_r a_fresh a_st a_undone a_kept m_undos m_images a_from a_begin a_motor a_change a_startFrame a_changeFrame a_lostAt a_blackAt a_slips a_leftArc a_died a_arcs m_bestSum m_nearest m_nearestTown a_there a_backAt a_sorted a_parts m_seed1 m_darkNow), (cAI g a_r 311 d_r), (cAI g a_motor 8 d_motor), (cAI g a_change 8 d_change), (cAI g a_leftArc 8 d_leftArc), (cAI g a_died 8 d_died), (cAI g a_arcs 2 (upd d_arcs (0 : Int32).toNatClampNeg z_1))] X dX11_burn_13 6 rfl (by unfold vp_in; decide) rfl ?_
  refine (fun hg : ∀ fa_2 : Nat → Int32, Wk p l e _ s m args below meth c _ A g _ _ _ [(cO11_i1r1i10r1i2r5i2r12i3r4i2 h0 m_thrown a_tape m_taped m_size m_at m_end m_token m_whole m_nameSize m_fault m_place m_trouble a_letters m_failed m_hasHouse a_r a_fresh a_st a_undone a_kept m_undos m_images a_from a_begin a_motor a_change a_startFrame a_changeFrame a_lostAt a_blackAt a_slips a_leftArc a_died a_arcs m_bestSum m_nearest m_nearestTown a_there a_backAt a_sorted a_parts m_seed1 m_darkNow), (cAI g a_r 311 d_r), (cAI g a_motor 8 d_motor), (cAI g a_change 8 d_change), (cAI g a_leftArc 8 d_leftArc), (cAI g a_died 8 d_died), (cAI g a_arcs 2 fa_2)] _ _ _ => hg _) (fun fa_2 => ?_)
  refine k_aload_n X dX11_burn_14 1 rfl ?_
  refine k_get (ci := 11) X inlX11 rfl 33 (by decide) dX11_burn_15 mw186 0 rfl rfl ?_
  refine k_iconst (v := 1) X dX11_burn_18 (by decide) ?_
  refine k_aload_n X dX11_burn_19 1 rfl ?_
  refine k_get (ci := 11) X inlX11 rfl 15 (by decide) dX11_burn_20 mw170 0 rfl rfl ?_
  refine k_iconst (v := 3) X dX11_burn_23 (by decide) ?_
  refine k_iald X dX11_burn_24 1 rfl (by unfold vp_in; decide) ?_
  refine k_to z_1 ez_1.symm ?_
  refine k_iast [(cO11_i1r1i10r1i2r5i2r12i3r4i2 h0 m_thrown a_tape m_taped m_size m_at m_end m_token m_whole m_nameSize m_fault m_place m_trouble a_letters m_failed m_hasHouse a_r a_fresh a_st a_undone a_kept m_undos m_images a_from a_begin a_motor a_change a_startFrame a_changeFrame a_lostAt a_blackAt a_slips a_leftArc a_died a_arcs m_bestSum m_nearest m_nearestTown a_there a_backAt a_sorted a_parts m_seed1 m_darkNow), (cAI g a_r 311 d_r), (cAI g a_motor 8 d_motor), (cAI g a_change 8 d_change), (cAI g a_leftArc 8 d_leftArc), (cAI g a_died 8 d_died), (cAI g a_arcs 2 (upd fa_2 (1 : Int32).toNatClampNeg z_1))] X dX11_burn_25 6 rfl (by unfold vp_in; decide) rfl ?_
  refine (fun hg : ∀ fa_3 : Nat → Int32, Wk p l e _ s m args below meth c _ A g _ _ _ [(cO11_i1r1i10r1i2r5i2r12i3r4i2 h0 m_thrown a_tape m_taped m_size m_at m_end m_token m_whole m_nameSize m_fault m_place m_trouble a_letters m_failed m_hasHouse a_r a_fresh a_st a_undone a_kept m_undos m_images a_from a_begin a_motor a_change a_startFrame a_changeFrame a_lostAt a_blackAt a_slips a_leftArc a_died a_arcs m_bestSum m_nearest m_nearestTown a_there a_backAt a_sorted a_parts m_seed1 m_darkNow), (cAI g a_r 311 d_r), (cAI g a_motor 8 d_motor), (cAI g a_change 8 d_change), (cAI g a_leftArc 8 d_leftArc), (cAI g a_died 8 d_died), (cAI g a_arcs 2 fa_3)] _ _ _ => hg _) (fun fa_3 => ?_)
  refine k_iconst (v := 0) X dX11_burn_26 (by decide) ?_
  refine k_istore_n [(3, .int 0), (2, .int 1), (0, .ref h0), (1, .int p0)] X dX11_burn_27 (by decide) rfl ?_
  refine (fun hL : ∀ (nn_11 : Nat) (uf_4 : Nat → Int32) (uf_5 : Nat → Int32) (uf_6 : Nat → Int32) (u_7 : Int32) (u_9 : Int32), (2147483647 - u_9.toInt).toNat = nn_11 → (IV u_7 0 1) → (IV u_9 0 8) → Wk p l e _ s m args below meth c _ A g _ _ _ [(cO11_i1r1i10r1i2r5i2r12i3r4i2 h0 m_thrown a_tape m_taped m_size m_at m_end m_token m_whole m_nameSize m_fault m_place m_trouble a_letters m_failed m_hasHouse a_r a_fresh a_st a_undone a_kept m_undos m_images a_from a_begin a_motor a_change a_startFrame a_changeFrame a_lostAt a_blackAt a_slips a_leftArc a_died a_arcs m_bestSum m_nearest m_nearestTown a_there a_backAt a_sorted a_parts m_seed1 m_darkNow), (cAI g a_r 311 d_r), (cAI g a_motor 8 d_motor), (cAI g a_change 8 d_change), (cAI g a_leftArc 8 uf_6), (cAI g a_died 8 uf_5), (cAI g a_arcs 2 uf_4)] [(3, .int u_9), (2, .int u_7), (0, .ref h0), (1, .int p0)] 28 [] => hL _ fa_3 d_died d_leftArc 1 0 rfl (iv_w (show IV 1 1 1 from (by decide)) (by decide) (by decide)) (iv_w (show IV 0 0 0 from (by decide)) (by decide) (by decide))) ?_
  refine fun nn_11 => Nat.strongRecOn nn_11 (fun nn_11 ih_13 => ?_)
  intro uf_4 uf_5 uf_6 u_7 u_9 hm_12 hv_8 hv_10
  refine k_iload_n X dX11_burn_28 0 rfl ?_
  refine k_aload_n X dX11_burn_29 2 rfl ?_
  refine k_get (ci := 11) X inlX11 rfl 15 (by decide) dX11_burn_30 mw170 0 rfl rfl ?_
  refine k_bipush (v := 12) X dX11_burn_33 (by decide) ?_
  refine k_iald X dX11_burn_35 1 rfl (by unfold vp_in; decide) ?_
  refine k_nm (fun z_14 ez_14 => ?_)
  have i_15 : z_14.toInt = (d_r 12).toInt := by rw [ez_14]; rfl
  have iv_16 : IV z_14 0 8 := rb_12 ez_14 hp_d_r
  refine k_ic_ge 190 X dX11_burn_36 (by decide) (fun h_17 => ?_) (fun h_17 => ?_)
  · skip
    have j_18 : z_14.toInt ≤ u_9.toInt := iv_le h_17
    refine k_iload_n X dX11_burn_190 1 rfl ?_
    exact k_zret X hr (zn_b (iv_w hv_8 (by decide) (by decide))) dX11_burn_191 (Nat.le_of_ble_eq_true rfl) (Nat.le_of_ble_eq_true rfl) [0, 1, 2, 3, 4, 5, 6] (by decide) rfl rfl ⟨uf_4, uf_5, uf_6, (iv_w hv_8 (by decide) (by decide)), rfl⟩
  · skip
    have j_19 : u_9.toInt < z_14.toInt := iv_nle h_17
    have iv_20 : IV u_9 0 7 := iv_ltL (iv_nle h_17) hv_10 iv_16 (by decide)
    have iv_21 : IV z_14 1 8 := iv_ltR (iv_nle h_17) hv_10 iv_16 (by decide)
    refine k_iload_n X dX11_burn_39 0 rfl ?_
    refine k_iconst (v := 2) X dX11_burn_40 (by decide) ?_
    refine k_irem X dX11_burn_41 (by decide) ?_
    refine k_nm (fun z_22 ez_22 => ?_)
    have iv_23 : IV z_22 0 1 := iv_rem (k := 2) ez_22 iv_20 (by decide) (by decide) (by decide)
    refine k_istore [(4, .int z_22), (3, .int u_9), (2, .int u_7), (0, .ref h0), (1, .int p0)] X dX11_burn_42 (by decide) rfl ?_
    refine k_iload_n X dX11_burn_44 4 rfl ?_
    refine k_iload_n X dX11_burn_45 1 rfl ?_
    refine k_callSI (n := 2) (As := [.int p0, .int u_9]) (st := []) X [] [(cO11_i1r1i10r1i2r5i2r12i3r4i2 h0 m_thrown a_tape m_taped m_size m_at m_end m_token m_whole m_nameSize m_fault m_place m_trouble a_letters m_failed m_hasHouse a_r a_fresh a_st a_undone a_kept m_undos m_images a_from a_begin a_motor a_change a_startFrame a_changeFrame a_lostAt a_blackAt a_slips a_leftArc a_died a_arcs m_bestSum m_nearest m_nearestTown a_there a_backAt a_sorted a_parts m_seed1 m_darkNow), (cAI g a_r 311 d_r), (cAI g a_motor 8 d_motor), (cAI g a_change 8 d_change), (cAI g a_leftArc 8 uf_6), (cAI g a_died 8 uf_5), (cAI g a_arcs 2 uf_4)] [] [0, 1, 2, 3, 4, 5, 6] (m_hasBit l g p0 u_9) dX11_burn_46 mw686 mw687 mw5 mw688 yk_yX11_hasBit_2 rfl (Nat.le_of_ble_eq_true rfl) (Nat.le_of_ble_eq_true rfl) (Nat.le_of_ble_eq_true rfl) (Nat.le_of_ble_eq_true rfl) (Nat.le_of_ble_eq_true rfl) rfl rfl (by decide) rfl (by decide) (by decide) ?_
    rintro r_24 w ⟨iv_25, rfl⟩
    refine k_ws [(cO11_i1r1i10r1i2r5i2r12i3r4i2 h0 m_thrown a_tape m_taped m_size m_at m_end m_token m_whole m_nameSize m_fault m_place m_trouble a_letters m_failed m_hasHouse a_r a_fresh a_st a_undone a_kept m_undos m_images a_from a_begin a_motor a_change a_startFrame a_changeFrame a_lostAt a_blackAt a_slips a_leftArc a_died a_arcs m_bestSum m_nearest m_nearestTown a_there a_backAt a_sorted a_parts m_seed1 m_darkNow), (cAI g a_r 311 d_r), (cAI g a_motor 8 d_motor), (cAI g a_change 8 d_change), (cAI g a_leftArc 8 uf_6), (cAI g a_died 8 uf_5), (cAI g a_arcs 2 uf_4)] rfl ?_
    refine k_if_eq 84 X dX11_burn_49 (by decide) (fun h_26 => ?_) (fun h_26 => ?_)
    · skip
      have iv_27 : IV r_24 0 0 := iv_meet iv_25 (iv_e h_26 (show IV 0 0 0 from (by decide))) (by decide) (by decide)
      refine k_aload_n X dX11_burn_84 3 rfl ?_
      refine k_get (ci := 11) X inlX11 rfl 33 (by decide) dX11_burn_85 mw186 0 rfl rfl ?_
      refine k_iload X dX11_burn_88 0 rfl ?_
      refine k_iald X dX11_burn_90 6 rfl (iv_in iv_23 (by decide) (by decide)) ?_
      refine k_nm (fun z_28 ez_28 => ?_)
      refine k_aload_n X dX11_burn_91 3 rfl ?_
      refine k_iload_n X dX11_burn_92 1 rfl ?_
      refine k_callVI (n := 1) (As := [.int u_9]) (st := [.int z_28]) X [(cO11_i1r1i10r1i2r5i2r12i3r4i2 h0 m_thrown a_tape m_taped m_size m_at m_end m_token m_whole m_nameSize m_fault m_place m_trouble a_letters m_failed m_hasHouse a_r a_fresh a_st a_undone a_kept m_undos m_images a_from a_begin a_motor a_change a_startFrame a_changeFrame a_lostAt a_blackAt a_slips a_leftArc a_died a_arcs m_bestSum m_nearest m_nearestTown a_there a_backAt a_sorted a_parts m_seed1 m_darkNow), (cAI g a_motor 8 d_motor), (cAI g a_change 8 d_change)] [(cAI g a_r 311 d_r), (cAI g a_leftArc 8 uf_6), (cAI g a_died 8 uf_5), (cAI g a_arcs 2 uf_4)] [0, 2, 3] [1, 4, 5, 6] (m_needsOf l g h0 u_9 m_thrown a_tape m_taped m_size m_at m_end m_token m_whole m_nameSize m_fault m_place m_trouble a_letters m_failed m_hasHouse a_r a_fresh a_st a_undone a_kept m_undos m_images a_from a_begin a_motor a_change a_startFrame a_changeFrame a_lostAt a_blackAt a_slips a_leftArc a_died a_arcs m_bestSum m_nearest m_nearestTown a_there a_backAt a_sorted a_parts m_seed1 m_darkNow d_motor d_change (iv_w iv_20 (by decide) (by decide))) dX11_burn_93 mw1022 mw1023 mw1024 mw5 mw1025 rfl 11 rfl rfl 0 _ rfl yk_yX11_needsOf_1 rfl (Nat.le_of_ble_eq_true rfl) (Nat.le_of_ble_eq_true rfl) (Nat.le_of_ble_eq_true rfl) (Nat.le_of_ble_eq_true rfl) (Nat.le_of_ble_eq_true rfl) rfl rfl (by decide) rfl (by decide) (by decide) ?_
      rintro r_29 w rfl
      refine k_ws [(cAI g a_r 311 d_r), (cAI g a_leftArc 8 uf_6), (cAI g a_died 8 uf_5), (cAI g a_arcs 2 uf_4), (cO11_i1r1i10r1i2r5i2r12i3r4i2 h0 m_thrown a_tape m_taped m_size m_at m_end m_token m_whole m_nameSize m_fault m_place m_trouble a_letters m_failed m_hasHouse a_r a_fresh a_st a_undone a_kept m_undos m_images a_from a_begin a_motor a_change a_startFrame a_changeFrame a_lostAt a_blackAt a_slips a_leftArc a_died a_arcs m_bestSum m_nearest m_nearestTown a_there a_backAt a_sorted a_parts m_seed1 m_darkNow), (cAI g a_motor 8 d_motor), (cAI g a_change 8 d_change)] rfl ?_
      refine k_ic_ge 103 X dX11_burn_96 (by decide) (fun h_30 => ?_) (fun h_30 => ?_)
      · skip
        have j_31 : r_29.toInt ≤ z_28.toInt := iv_le h_30
        refine k_iconst (v := 0) X dX11_burn_103 (by decide) ?_
        refine k_istore [(5, .int 0), (4, .int z_22), (3, .int u_9), (2, .int u_7), (0, .ref h0), (1, .int p0)] X dX11_burn_104 (by decide) rfl ?_
        refine k_aload_n X dX11_burn_106 4 rfl ?_
        refine k_get (ci := 11) X inlX11 rfl 32 (by decide) dX11_burn_107 mw185 4 rfl rfl ?_
        refine k_iload_n X dX11_burn_110 2 rfl ?_
        refine k_iload X dX11_burn_111 0 rfl ?_
        refine k_if_eq 120 X dX11_burn_113 (by decide) (fun _ => ?_) (fun h_32 => absurd (by decide) h_32)
        refine k_iconst (v := 0) X dX11_burn_120 (by decide) ?_
        refine k_iast [(cAI g a_r 311 d_r), (cAI g a_leftArc 8 uf_6), (cAI g a_died 8 (upd uf_5 (u_9 : Int32).toNatClampNeg 0)), (cAI g a_arcs 2 uf_4), (cO11_i1r1i10r1i2r5i2r12i3r4i2 h0 m_thrown a_tape m_taped m_size m_at m_end m_token m_whole m_nameSize m_fault m_place m_trouble a_letters m_failed m_hasHouse a_r a_fresh a_st a_undone a_kept m_undos m_images a_from a_begin a_motor a_change a_startFrame a_changeFrame a_lostAt a_blackAt a_slips a_leftArc a_died a_arcs m_bestSum m_nearest m_nearestTown a_there a_backAt a_sorted a_parts m_seed1 m_darkNow), (cAI g a_motor 8 d_motor), (cAI g a_change 8 d_change)] X dX11_burn_121 2 rfl (iv_in iv_20 (by decide) (by decide)) rfl ?_
        refine (fun hg : ∀ fa_33 : Nat → Int32, Wk p l e _ s m args below meth c _ A g _ _ _ [(cAI g a_r 311 d_r), (cAI g a_leftArc 8 uf_6), (cAI g a_died 8 fa_33), (cAI g a_arcs 2 uf_4), (cO11_i1r1i10r1i2r5i2r12i3r4i2 h0 m_thrown a_tape m_taped m_size m_at m_end m_token m_whole m_nameSize m_fault m_place m_trouble a_letters m_failed m_hasHouse a_r a_fresh a_st a_undone a_kept m_undos m_images a_from a_begin a_motor a_change a_startFrame a_changeFrame a_lostAt a_blackAt a_slips a_leftArc a_died a_arcs m_bestSum m_nearest m_nearestTown a_there a_backAt a_sorted a_parts m_seed1 m_darkNow), (cAI g a_motor 8 d_motor), (cAI g a_change 8 d_change)] _ _ _ => hg _) (fun fa_33 => ?_)
        refine k_aload_n X dX11_burn_122 4 rfl ?_
        refine k_get (ci := 11) X inlX11 rfl 33 (by decide) dX11_burn_123 mw186 4 rfl rfl ?_
        refine k_iload X dX11_burn_126 1 rfl ?_
        refine k_iload X dX11_burn_128 0 rfl ?_
        refine k_if_eq 142 X dX11_burn_130 (by decide) (fun _ => ?_) (fun h_34 => absurd (by decide) h_34)
        refine k_aload_n X dX11_burn_142 4 rfl ?_
        refine k_get (ci := 11) X inlX11 rfl 33 (by decide) dX11_burn_143 mw186 4 rfl rfl ?_
        refine k_iload X dX11_burn_146 1 rfl ?_
        refine k_iald X dX11_burn_148 3 rfl (iv_in iv_23 (by decide) (by decide)) ?_
        refine k_to z_28 ez_28.symm ?_
        refine k_aload_n X dX11_burn_149 4 rfl ?_
        refine k_iload_n X dX11_burn_150 2 rfl ?_
        refine k_callVI (n := 1) (As := [.int u_9]) (st := [.int z_28, .int z_22, .ref a_arcs]) X [(cO11_i1r1i10r1i2r5i2r12i3r4i2 h0 m_thrown a_tape m_taped m_size m_at m_end m_token m_whole m_nameSize m_fault m_place m_trouble a_letters m_failed m_hasHouse a_r a_fresh a_st a_undone a_kept m_undos m_images a_from a_begin a_motor a_change a_startFrame a_changeFrame a_lostAt a_blackAt a_slips a_leftArc a_died a_arcs m_bestSum m_nearest m_nearestTown a_there a_backAt a_sorted a_parts m_seed1 m_darkNow), (cAI g a_motor 8 d_motor), (cAI g a_change 8 d_change)] [(cAI g a_r 311 d_r), (cAI g a_leftArc 8 uf_6), (cAI g a_died 8 fa_33), (cAI g a_arcs 2 uf_4)] [4, 5, 6] [0, 1, 2, 3] (m_needsOf l g h0 u_9 m_thrown a_tape m_taped m_size m_at m_end m_token m_whole m_nameSize m_fault m_place m_trouble a_letters m_failed m_hasHouse a_r a_fresh a_st a_undone a_kept m_undos m_images a_from a_begin a_motor a_change a_startFrame a_changeFrame a_lostAt a_blackAt a_slips a_leftArc a_died a_arcs m_bestSum m_nearest m_nearestTown a_there a_backAt a_sorted a_parts m_seed1 m_darkNow d_motor d_change (iv_w iv_20 (by decide) (by decide))) dX11_burn_151 mw1022 mw1023 mw1024 mw5 mw1025 rfl 11 rfl rfl 0 _ rfl yk_yX11_needsOf_1 rfl (Nat.le_of_ble_eq_true rfl) (Nat.le_of_ble_eq_true rfl) (Nat.le_of_ble_eq_true rfl) (Nat.le_of_ble_eq_true rfl) (Nat.le_of_ble_eq_true rfl) rfl rfl (by decide) rfl (by decide) (by decide) ?_
        rintro r_35 w rfl
        refine k_ws [(cAI g a_r 311 d_r), (cAI g a_leftArc 8 uf_6), (cAI g a_died 8 fa_33), (cAI g a_arcs 2 uf_4), (cO11_i1r1i10r1i2r5i2r12i3r4i2 h0 m_thrown a_tape m_taped m_size m_at m_end m_token m_whole m_nameSize m_fault m_place m_trouble a_letters m_failed m_hasHouse a_r a_fresh a_st a_undone a_kept m_undos m_images a_from a_begin a_motor a_change a_startFrame a_changeFrame a_lostAt a_blackAt a_slips a_leftArc a_died a_arcs m_bestSum m_nearest m_nearestTown a_there a_backAt a_sorted a_parts m_seed1 m_darkNow), (cAI g a_motor 8 d_motor), (cAI g a_change 8 d_change)] rfl ?_
        refine k_isub X dX11_burn_154 ?_
        refine k_nm (fun z_36 ez_36 => ?_)
        refine k_iast [(cAI g a_r 311 d_r), (cAI g a_leftArc 8 uf_6), (cAI g a_died 8 fa_33), (cAI g a_arcs 2 (upd uf_4 (z_22 : Int32).toNatClampNeg z_36)), (cO11_i1r1i10r1i2r5i2r12i3r4i2 h0 m_thrown a_tape m_taped m_size m_at m_end m_token m_whole m_nameSize m_fault m_place m_trouble a_letters m_failed m_hasHouse a_r a_fresh a_st a_undone a_kept m_undos m_images a_from a_begin a_motor a_change a_startFrame a_changeFrame a_lostAt a_blackAt a_slips a_leftArc a_died a_arcs m_bestSum m_nearest m_nearestTown a_there a_backAt a_sorted a_parts m_seed1 m_darkNow), (cAI g a_motor 8 d_motor), (cAI g a_change 8 d_change)] X dX11_burn_155 3 rfl (iv_in iv_23 (by decide) (by decide)) rfl ?_
        refine (fun hg : ∀ fa_38 : Nat → Int32, Wk p l e _ s m args below meth c _ A g _ _ _ [(cAI g a_r 311 d_r), (cAI g a_leftArc 8 uf_6), (cAI g a_died 8 fa_33), (cAI g a_arcs 2 fa_38), (cO11_i1r1i10r1i2r5i2r12i3r4i2 h0 m_thrown a_tape m_taped m_size m_at m_end m_token m_whole m_nameSize m_fault m_place m_trouble a_letters m_failed m_hasHouse a_r a_fresh a_st a_undone a_kept m_undos m_images a_from a_begin a_motor a_change a_startFrame a_changeFrame a_lostAt a_blackAt a_slips a_leftArc a_died a_arcs m_bestSum m_nearest m_nearestTown a_there a_backAt a_sorted a_parts m_seed1 m_darkNow), (cAI g a_motor 8 d_motor), (cAI g a_change 8 d_change)] _ _ _ => hg _) (fun fa_38 => ?_)
        refine k_aload_n X dX11_burn_156 4 rfl ?_
        refine k_get (ci := 11) X inlX11 rfl 31 (by decide) dX11_burn_157 mw184 4 rfl rfl ?_
        refine k_iload_n X dX11_burn_160 2 rfl ?_
        refine k_aload_n X dX11_burn_161 4 rfl ?_
        refine k_get (ci := 11) X inlX11 rfl 33 (by decide) dX11_burn_162 mw186 4 rfl rfl ?_
        refine k_iload X dX11_burn_165 1 rfl ?_
        refine k_iald X dX11_burn_167 3 rfl (iv_in iv_23 (by decide) (by decide)) ?_
        refine k_nm (fun z_39 ez_39 => ?_)
        refine k_iast [(cAI g a_r 311 d_r), (cAI g a_leftArc 8 (upd uf_6 (u_9 : Int32).toNatClampNeg z_39)), (cAI g a_died 8 fa_33), (cAI g a_arcs 2 fa_38), (cO11_i1r1i10r1i2r5i2r12i3r4i2 h0 m_thrown a_tape m_taped m_size m_at m_end m_token m_whole m_nameSize m_fault m_place m_trouble a_letters m_failed m_hasHouse a_r a_fresh a_st a_undone a_kept m_undos m_images a_from a_begin a_motor a_change a_startFrame a_changeFrame a_lostAt a_blackAt a_slips a_leftArc a_died a_arcs m_bestSum m_nearest m_nearestTown a_there a_backAt a_sorted a_parts m_seed1 m_darkNow), (cAI g a_motor 8 d_motor), (cAI g a_change 8 d_change)] X dX11_burn_168 1 rfl (iv_in iv_20 (by decide) (by decide)) rfl ?_
        refine (fun hg : ∀ fa_40 : Nat → Int32, Wk p l e _ s m args below meth c _ A g _ _ _ [(cAI g a_r 311 d_r), (cAI g a_leftArc 8 fa_40), (cAI g a_died 8 fa_33), (cAI g a_arcs 2 fa_38), (cO11_i1r1i10r1i2r5i2r12i3r4i2 h0 m_thrown a_tape m_taped m_size m_at m_end m_token m_whole m_nameSize m_fault m_place m_trouble a_letters m_failed m_hasHouse a_r a_fresh a_st a_undone a_kept m_undos m_images a_from a_begin a_motor a_change a_startFrame a_changeFrame a_lostAt a_blackAt a_slips a_leftArc a_died a_arcs m_bestSum m_nearest m_nearestTown a_there a_backAt a_sorted a_parts m_seed1 m_darkNow), (cAI g a_motor 8 d_motor), (cAI g a_change 8 d_change)] _ _ _ => hg _) (fun fa_40 => ?_)
        refine k_iload_n X dX11_burn_169 3 rfl ?_
        refine k_if_eq 182 X dX11_burn_170 (by decide) (fun h_41 => ?_) (fun h_41 => ?_)
        · skip
          have iv_42 : IV u_7 0 0 := iv_meet hv_8 (iv_e h_41 (show IV 0 0 0 from (by decide))) (by decide) (by decide)
          refine k_iconst (v := 0) X dX11_burn_182 (by decide) ?_
          refine k_istore_n [(2, .int 0), (5, .int 0), (4, .int z_22), (3, .int u_9), (0, .ref h0), (1, .int p0)] X dX11_burn_183 (by decide) rfl ?_
          obtain ⟨z_43, ez_43⟩ : ∃ y : Int32, u_9 + Int32.ofInt 1 = y := ⟨_, rfl⟩
          refine k_iinc z_43 [(3, .int z_43), (2, .int 0), (5, .int 0), (4, .int z_22), (0, .ref h0), (1, .int p0)] 3 X dX11_burn_184 rfl ez_43 (by decide) rfl ?_
          have i_44 : z_43.toInt = u_9.toInt + 1 := in_inc ez_43 (by decide) iv_20 (by decide) (by decide)
          have iv_45 : IV z_43 1 8 := iz1 i_44 iv_20 (by decide) (by decide)
          refine k_goto 28 X dX11_burn_187 (by decide) ?_
          refine k_lv [(3, .int z_43), (2, .int 0), (0, .ref h0), (1, .int p0)] [0, 1, 4, 5] rfl ?_
          refine k_sub [(cO11_i1r1i10r1i2r5i2r12i3r4i2 h0 m_thrown a_tape m_taped m_size m_at m_end m_token m_whole m_nameSize m_fault m_place m_trouble a_letters m_failed m_hasHouse a_r a_fresh a_st a_undone a_kept m_undos m_images a_from a_begin a_motor a_change a_startFrame a_changeFrame a_lostAt a_blackAt a_slips a_leftArc a_died a_arcs m_bestSum m_nearest m_nearestTown a_there a_backAt a_sorted a_parts m_seed1 m_darkNow), (cAI g a_r 311 d_r), (cAI g a_motor 8 d_motor), (cAI g a_change 8 d_change), (cAI g a_leftArc 8 fa_40), (cAI g a_died 8 fa_33), (cAI g a_arcs 2 fa_38)] [4, 0, 5, 6, 1, 2, 3] rfl (by decide) rfl ?_
          exact ih_13 _ (by omega) fa_38 fa_33 fa_40 0 z_43 rfl (iv_w (show IV 0 0 0 from (by decide)) (by decide) (by decide)) (iv_w iv_45 (by decide) (by decide))
        · skip
          have iv_46 : IV u_7 1 1 := iv_neL h_41 hv_8 (show IV 0 0 0 from (by decide)) (by decide)
          refine k_iload X dX11_burn_173 0 rfl ?_
          refine k_if_ne 182 X dX11_burn_175 (by decide) (fun h_47 => absurd h_47 (by decide)) (fun _ => ?_)
          refine k_iconst (v := 1) X dX11_burn_178 (by decide) ?_
          refine k_goto 183 X dX11_burn_179 (by decide) ?_
          refine k_istore_n [(2, .int 1), (5, .int 0), (4, .int z_22), (3, .int u_9), (0, .ref h0), (1, .int p0)] X dX11_burn_183 (by decide) rfl ?_
          obtain ⟨z_48, ez_48⟩ : ∃ y : Int32, u_9 + Int32.ofInt 1 = y := ⟨_, rfl⟩
          refine k_iinc z_48 [(3, .int z_48), (2, .int 1), (5, .int 0), (4, .int z_22), (0, .ref h0), (1, .int p0)] 3 X dX11_burn_184 rfl ez_48 (by decide) rfl ?_
          have i_49 : z_48.toInt = u_9.toInt + 1 := in_inc ez_48 (by decide) iv_20 (by decide) (by decide)
          have iv_50 : IV z_48 1 8 := iz1 i_49 iv_20 (by decide) (by decide)
          refine k_goto 28 X dX11_burn_187 (by decide) ?_
          refine k_lv [(3, .int z_48), (2, .int 1), (0, .ref h0), (1, .int p0)] [0, 1, 4, 5] rfl ?_
          refine k_sub [(cO11_i1r1i10r1i2r5i2r12i3r4i2 h0 m_thrown a_tape m_taped m_size m_at m_end m_token m_whole m_nameSize m_fault m_place m_trouble a_letters m_failed m_hasHouse a_r a_fresh a_st a_undone a_kept m_undos m_images a_from a_begin a_motor a_change a_startFrame a_changeFrame a_lostAt a_blackAt a_slips a_leftArc a_died a_arcs m_bestSum m_nearest m_nearestTown a_there a_backAt a_sorted a_parts m_seed1 m_darkNow), (cAI g a_r 311 d_r), (cAI g a_motor 8 d_motor), (cAI g a_change 8 d_change), (cAI g a_leftArc 8 fa_40), (cAI g a_died 8 fa_33), (cAI g a_arcs 2 fa_38)] [4, 0, 5, 6, 1, 2, 3] rfl (by decide) rfl ?_
          exact ih_13 _ (by omega) fa_38 fa_33 fa_40 1 z_48 rfl (iv_w (show IV 1 1 1 from (by decide)) (by decide) (by decide)) (iv_w iv_50 (by decide) (by decide))
      · skip
        have j_51 : z_28.toInt < r_29.toInt := iv_nle h_30
        have iv_52 : IV z_28 (-2147483648) 2147483646 := iv_ltL (iv_nle h_30) (iv_any z_28) (iv_any r_29) (by decide)
        have iv_53 : IV r_29 (-2147483647) 2147483647 := iv_ltR (iv_nle h_30) (iv_any z_28) (iv_any r_29) (by decide)
        refine k_iconst (v := 1) X dX11_burn_99 (by decide) ?_
        refine k_goto 104 X dX11_burn_100 (by decide) ?_
        refine k_istore [(5, .int 1), (4, .int z_22), (3, .int u_9), (2, .int u_7), (0, .ref h0), (1, .int p0)] X dX11_burn_104 (by decide) rfl ?_
        refine k_aload_n X dX11_burn_106 4 rfl ?_
        refine k_get (ci := 11) X inlX11 rfl 32 (by decide) dX11_burn_107 mw185 4 rfl rfl ?_
        refine k_iload_n X dX11_burn_110 2 rfl ?_
        refine k_iload X dX11_burn_111 0 rfl ?_
        refine k_if_eq 120 X dX11_burn_113 (by decide) (fun h_54 => absurd h_54 (by decide)) (fun _ => ?_)
        refine k_iconst (v := 1) X dX11_burn_116 (by decide) ?_
        refine k_goto 121 X dX11_burn_117 (by decide) ?_
        refine k_iast [(cAI g a_r 311 d_r), (cAI g a_leftArc 8 uf_6), (cAI g a_died 8 (upd uf_5 (u_9 : Int32).toNatClampNeg 1)), (cAI g a_arcs 2 uf_4), (cO11_i1r1i10r1i2r5i2r12i3r4i2 h0 m_thrown a_tape m_taped m_size m_at m_end m_token m_whole m_nameSize m_fault m_place m_trouble a_letters m_failed m_hasHouse a_r a_fresh a_st a_undone a_kept m_undos m_images a_from a_begin a_motor a_change a_startFrame a_changeFrame a_lostAt a_blackAt a_slips a_leftArc a_died a_arcs m_bestSum m_nearest m_nearestTown a_there a_backAt a_sorted a_parts m_seed1 m_darkNow), (cAI g a_motor 8 d_motor), (cAI g a_change 8 d_change)] X dX11_burn_121 2 rfl (iv_in iv_20 (by decide) (by decide)) rfl ?_
        refine (fun hg : ∀ fa_55 : Nat → Int32, Wk p l e _ s m args below meth c _ A g _ _ _ [(cAI g a_r 311 d_r), (cAI g a_leftArc 8 uf_6), (cAI g a_died 8 fa_55), (cAI g a_arcs 2 uf_4), (cO11_i1r1i10r1i2r5i2r12i3r4i2 h0 m_thrown a_tape m_taped m_size m_at m_end m_token m_whole m_nameSize m_fault m_place m_trouble a_letters m_failed m_hasHouse a_r a_fresh a_st a_undone a_kept m_undos m_images a_from a_begin a_motor a_change a_startFrame a_changeFrame a_lostAt a_blackAt a_slips a_leftArc a_died a_arcs m_bestSum m_nearest m_nearestTown a_there a_backAt a_sorted a_parts m_seed1 m_darkNow), (cAI g a_motor 8 d_motor), (cAI g a_change 8 d_change)] _ _ _ => hg _) (fun fa_55 => ?_)
        refine k_aload_n X dX11_burn_122 4 rfl ?_
        refine k_get (ci := 11) X inlX11 rfl 33 (by decide) dX11_burn_123 mw186 4 rfl rfl ?_
        refine k_iload X dX11_burn_126 1 rfl ?_
        refine k_iload X dX11_burn_128 0 rfl ?_
        refine k_if_eq 142 X dX11_burn_130 (by decide) (fun h_56 => absurd h_56 (by decide)) (fun _ => ?_)
        refine k_aload_n X dX11_burn_133 4 rfl ?_
        refine k_get (ci := 11) X inlX11 rfl 15 (by decide) dX11_burn_134 mw170 4 rfl rfl ?_
        refine k_iconst (v := 3) X dX11_burn_137 (by decide) ?_
        refine k_iald X dX11_burn_138 0 rfl (by unfold vp_in; decide) ?_
        refine k_to z_1 ez_1.symm ?_
        refine k_goto 155 X dX11_burn_139 (by decide) ?_
        refine k_iast [(cAI g a_r 311 d_r), (cAI g a_leftArc 8 uf_6), (cAI g a_died 8 fa_55), (cAI g a_arcs 2 (upd uf_4 (z_22 : Int32).toNatClampNeg z_1)), (cO11_i1r1i10r1i2r5i2r12i3r4i2 h0 m_thrown a_tape m_taped m_size m_at m_end m_token m_whole m_nameSize m_fault m_place m_trouble a_letters m_failed m_hasHouse a_r a_fresh a_st a_undone a_kept m_undos m_images a_from a_begin a_motor a_change a_startFrame a_changeFrame a_lostAt a_blackAt a_slips a_leftArc a_died a_arcs m_bestSum m_nearest m_nearestTown a_there a_backAt a_sorted a_parts m_seed1 m_darkNow), (cAI g a_motor 8 d_motor), (cAI g a_change 8 d_change)] X dX11_burn_155 3 rfl (iv_in iv_23 (by decide) (by decide)) rfl ?_
        refine (fun hg : ∀ fa_57 : Nat → Int32, Wk p l e _ s m args below meth c _ A g _ _ _ [(cAI g a_r 311 d_r), (cAI g a_leftArc 8 uf_6), (cAI g a_died 8 fa_55), (cAI g a_arcs 2 fa_57), (cO11_i1r1i10r1i2r5i2r12i3r4i2 h0 m_thrown a_tape m_taped m_size m_at m_end m_token m_whole m_nameSize m_fault m_place m_trouble a_letters m_failed m_hasHouse a_r a_fresh a_st a_undone a_kept m_undos m_images a_from a_begin a_motor a_change a_startFrame a_changeFrame a_lostAt a_blackAt a_slips a_leftArc a_died a_arcs m_bestSum m_nearest m_nearestTown a_there a_backAt a_sorted a_parts m_seed1 m_darkNow), (cAI g a_motor 8 d_motor), (cAI g a_change 8 d_change)] _ _ _ => hg _) (fun fa_57 => ?_)
        refine k_aload_n X dX11_burn_156 4 rfl ?_
        refine k_get (ci := 11) X inlX11 rfl 31 (by decide) dX11_burn_157 mw184 4 rfl rfl ?_
        refine k_iload_n X dX11_burn_160 2 rfl ?_
        refine k_aload_n X dX11_burn_161 4 rfl ?_
        refine k_get (ci := 11) X inlX11 rfl 33 (by decide) dX11_burn_162 mw186 4 rfl rfl ?_
        refine k_iload X dX11_burn_165 1 rfl ?_
        refine k_iald X dX11_burn_167 3 rfl (iv_in iv_23 (by decide) (by decide)) ?_
        refine k_nm (fun z_58 ez_58 => ?_)
        refine k_iast [(cAI g a_r 311 d_r), (cAI g a_leftArc 8 (upd uf_6 (u_9 : Int32).toNatClampNeg z_58)), (cAI g a_died 8 fa_55), (cAI g a_arcs 2 fa_57), (cO11_i1r1i10r1i2r5i2r12i3r4i2 h0 m_thrown a_tape m_taped m_size m_at m_end m_token m_whole m_nameSize m_fault m_place m_trouble a_letters m_failed m_hasHouse a_r a_fresh a_st a_undone a_kept m_undos m_images a_from a_begin a_motor a_change a_startFrame a_changeFrame a_lostAt a_blackAt a_slips a_leftArc a_died a_arcs m_bestSum m_nearest m_nearestTown a_there a_backAt a_sorted a_parts m_seed1 m_darkNow), (cAI g a_motor 8 d_motor), (cAI g a_change 8 d_change)] X dX11_burn_168 1 rfl (iv_in iv_20 (by decide) (by decide)) rfl ?_
        refine (fun hg : ∀ fa_59 : Nat → Int32, Wk p l e _ s m args below meth c _ A g _ _ _ [(cAI g a_r 311 d_r), (cAI g a_leftArc 8 fa_59), (cAI g a_died 8 fa_55), (cAI g a_arcs 2 fa_57), (cO11_i1r1i10r1i2r5i2r12i3r4i2 h0 m_thrown a_tape m_taped m_size m_at m_end m_token m_whole m_nameSize m_fault m_place m_trouble a_letters m_failed m_hasHouse a_r a_fresh a_st a_undone a_kept m_undos m_images a_from a_begin a_motor a_change a_startFrame a_changeFrame a_lostAt a_blackAt a_slips a_leftArc a_died a_arcs m_bestSum m_nearest m_nearestTown a_there a_backAt a_sorted a_parts m_seed1 m_darkNow), (cAI g a_motor 8 d_motor), (cAI g a_change 8 d_change)] _ _ _ => hg _) (fun fa_59 => ?_)
        refine k_iload_n X dX11_burn_169 3 rfl ?_
        refine k_if_eq 182 X dX11_burn_170 (by decide) (fun h_60 => ?_) (fun h_60 => ?_)
        · skip
          have iv_61 : IV u_7 0 0 := iv_meet hv_8 (iv_e h_60 (show IV 0 0 0 from (by decide))) (by decide) (by decide)
          refine k_iconst (v := 0) X dX11_burn_182 (by decide) ?_
          refine k_istore_n [(2, .int 0), (5, .int 1), (4, .int z_22), (3, .int u_9), (0, .ref h0), (1, .int p0)] X dX11_burn_183 (by decide) rfl ?_
          obtain ⟨z_62, ez_62⟩ : ∃ y : Int32, u_9 + Int32.ofInt 1 = y := ⟨_, rfl⟩
          refine k_iinc z_62 [(3, .int z_62), (2, .int 0), (5, .int 1), (4, .int z_22), (0, .ref h0), (1, .int p0)] 3 X dX11_burn_184 rfl ez_62 (by decide) rfl ?_
          have i_63 : z_62.toInt = u_9.toInt + 1 := in_inc ez_62 (by decide) iv_20 (by decide) (by decide)
          have iv_64 : IV z_62 1 8 := iz1 i_63 iv_20 (by decide) (by decide)
          refine k_goto 28 X dX11_burn_187 (by decide) ?_
          refine k_lv [(3, .int z_62), (2, .int 0), (0, .ref h0), (1, .int p0)] [0, 1, 4, 5] rfl ?_
          refine k_sub [(cO11_i1r1i10r1i2r5i2r12i3r4i2 h0 m_thrown a_tape m_taped m_size m_at m_end m_token m_whole m_nameSize m_fault m_place m_trouble a_letters m_failed m_hasHouse a_r a_fresh a_st a_undone a_kept m_undos m_images a_from a_begin a_motor a_change a_startFrame a_changeFrame a_lostAt a_blackAt a_slips a_leftArc a_died a_arcs m_bestSum m_nearest m_nearestTown a_there a_backAt a_sorted a_parts m_seed1 m_darkNow), (cAI g a_r 311 d_r), (cAI g a_motor 8 d_motor), (cAI g a_change 8 d_change), (cAI g a_leftArc 8 fa_59), (cAI g a_died 8 fa_55), (cAI g a_arcs 2 fa_57)] [4, 0, 5, 6, 1, 2, 3] rfl (by decide) rfl ?_
          exact ih_13 _ (by omega) fa_57 fa_55 fa_59 0 z_62 rfl (iv_w (show IV 0 0 0 from (by decide)) (by decide) (by decide)) (iv_w iv_64 (by decide) (by decide))
        · skip
          have iv_65 : IV u_7 1 1 := iv_neL h_60 hv_8 (show IV 0 0 0 from (by decide)) (by decide)
          refine k_iload X dX11_burn_173 0 rfl ?_
          refine k_if_ne 182 X dX11_burn_175 (by decide) (fun _ => ?_) (fun h_66 => absurd h_66 (by decide))
          refine k_iconst (v := 0) X dX11_burn_182 (by decide) ?_
          refine k_istore_n [(2, .int 0), (5, .int 1), (4, .int z_22), (3, .int u_9), (0, .ref h0), (1, .int p0)] X dX11_burn_183 (by decide) rfl ?_
          obtain ⟨z_67, ez_67⟩ : ∃ y : Int32, u_9 + Int32.ofInt 1 = y := ⟨_, rfl⟩
          refine k_iinc z_67 [(3, .int z_67), (2, .int 0), (5, .int 1), (4, .int z_22), (0, .ref h0), (1, .int p0)] 3 X dX11_burn_184 rfl ez_67 (by decide) rfl ?_
          have i_68 : z_67.toInt = u_9.toInt + 1 := in_inc ez_67 (by decide) iv_20 (by decide) (by decide)
          have iv_69 : IV z_67 1 8 := iz1 i_68 iv_20 (by decide) (by decide)
          refine k_goto 28 X dX11_burn_187 (by decide) ?_
          refine k_lv [(3, .int z_67), (2, .int 0), (0, .ref h0), (1, .int p0)] [0, 1, 4, 5] rfl ?_
          refine k_sub [(cO11_i1r1i10r1i2r5i2r12i3r4i2 h0 m_thrown a_tape m_taped m_size m_at m_end m_token m_whole m_nameSize m_fault m_place m_trouble a_letters m_failed m_hasHouse a_r a_fresh a_st a_undone a_kept m_undos m_images a_from a_begin a_motor a_change a_startFrame a_changeFrame a_lostAt a_blackAt a_slips a_leftArc a_died a_arcs m_bestSum m_nearest m_nearestTown a_there a_backAt a_sorted a_parts m_seed1 m_darkNow), (cAI g a_r 311 d_r), (cAI g a_motor 8 d_motor), (cAI g a_change 8 d_change), (cAI g a_leftArc 8 fa_59), (cAI g a_died 8 fa_55), (cAI g a_arcs 2 fa_57)] [4, 0, 5, 6, 1, 2, 3] rfl (by decide) rfl ?_
          exact ih_13 _ (by omega) fa_57 fa_55 fa_59 0 z_67 rfl (iv_w (show IV 0 0 0 from (by decide)) (by decide) (by decide)) (iv_w iv_69 (by decide) (by decide))
    · skip
      have iv_70 : IV r_24 1 1 := iv_neL h_26 iv_25 (show IV 0 0 0 from (by decide)) (by decide)
      refine k_iload_n X dX11_burn_52 1 rfl ?_
      refine k_iconst (v := 2) X dX11_burn_53 (by decide) ?_
      refine k_ic_lt 71 X dX11_burn_54 (by decide) (fun h_71 => ?_) (fun h_71 => ?_)
      · skip
        have j_72 : u_9.toInt < 2 := iv_lt h_71
        have iv_73 : IV u_9 0 1 := iv_ltL (iv_lt h_71) iv_20 (show IV 2 2 2 from (by decide)) (by decide)
        refine k_aload_n X dX11_burn_71 3 rfl ?_
        refine k_get (ci := 11) X inlX11 rfl 33 (by decide) dX11_burn_72 mw186 0 rfl rfl ?_
        refine k_iload X dX11_burn_75 0 rfl ?_
        refine k_aload_n X dX11_burn_77 3 rfl ?_
        refine k_get (ci := 11) X inlX11 rfl 15 (by decide) dX11_burn_78 mw170 0 rfl rfl ?_
        refine k_iconst (v := 3) X dX11_burn_81 (by decide) ?_
        refine k_iald X dX11_burn_82 1 rfl (by unfold vp_in; decide) ?_
        refine k_to z_1 ez_1.symm ?_
        refine k_iast [(cO11_i1r1i10r1i2r5i2r12i3r4i2 h0 m_thrown a_tape m_taped m_size m_at m_end m_token m_whole m_nameSize m_fault m_place m_trouble a_letters m_failed m_hasHouse a_r a_fresh a_st a_undone a_kept m_undos m_images a_from a_begin a_motor a_change a_startFrame a_changeFrame a_lostAt a_blackAt a_slips a_leftArc a_died a_arcs m_bestSum m_nearest m_nearestTown a_there a_backAt a_sorted a_parts m_seed1 m_darkNow), (cAI g a_r 311 d_r), (cAI g a_motor 8 d_motor), (cAI g a_change 8 d_change), (cAI g a_leftArc 8 uf_6), (cAI g a_died 8 uf_5), (cAI g a_arcs 2 (upd uf_4 (z_22 : Int32).toNatClampNeg z_1))] X dX11_burn_83 6 rfl (iv_in iv_23 (by decide) (by decide)) rfl ?_
        refine (fun hg : ∀ fa_74 : Nat → Int32, Wk p l e _ s m args below meth c _ A g _ _ _ [(cO11_i1r1i10r1i2r5i2r12i3r4i2 h0 m_thrown a_tape m_taped m_size m_at m_end m_token m_whole m_nameSize m_fault m_place m_trouble a_letters m_failed m_hasHouse a_r a_fresh a_st a_undone a_kept m_undos m_images a_from a_begin a_motor a_change a_startFrame a_changeFrame a_lostAt a_blackAt a_slips a_leftArc a_died a_arcs m_bestSum m_nearest m_nearestTown a_there a_backAt a_sorted a_parts m_seed1 m_darkNow), (cAI g a_r 311 d_r), (cAI g a_motor 8 d_motor), (cAI g a_change 8 d_change), (cAI g a_leftArc 8 uf_6), (cAI g a_died 8 uf_5), (cAI g a_arcs 2 fa_74)] _ _ _ => hg _) (fun fa_74 => ?_)
        refine k_aload_n X dX11_burn_84 3 rfl ?_
        refine k_get (ci := 11) X inlX11 rfl 33 (by decide) dX11_burn_85 mw186 0 rfl rfl ?_
        refine k_iload X dX11_burn_88 0 rfl ?_
        refine k_iald X dX11_burn_90 6 rfl (iv_in iv_23 (by decide) (by decide)) ?_
        refine k_nm (fun z_75 ez_75 => ?_)
        refine k_aload_n X dX11_burn_91 3 rfl ?_
        refine k_iload_n X dX11_burn_92 1 rfl ?_
        refine k_callVI (n := 1) (As := [.int u_9]) (st := [.int z_75]) X [(cO11_i1r1i10r1i2r5i2r12i3r4i2 h0 m_thrown a_tape m_taped m_size m_at m_end m_token m_whole m_nameSize m_fault m_place m_trouble a_letters m_failed m_hasHouse a_r a_fresh a_st a_undone a_kept m_undos m_images a_from a_begin a_motor a_change a_startFrame a_changeFrame a_lostAt a_blackAt a_slips a_leftArc a_died a_arcs m_bestSum m_nearest m_nearestTown a_there a_backAt a_sorted a_parts m_seed1 m_darkNow), (cAI g a_motor 8 d_motor), (cAI g a_change 8 d_change)] [(cAI g a_r 311 d_r), (cAI g a_leftArc 8 uf_6), (cAI g a_died 8 uf_5), (cAI g a_arcs 2 fa_74)] [0, 2, 3] [1, 4, 5, 6] (m_needsOf l g h0 u_9 m_thrown a_tape m_taped m_size m_at m_end m_token m_whole m_nameSize m_fault m_place m_trouble a_letters m_failed m_hasHouse a_r a_fresh a_st a_undone a_kept m_undos m_images a_from a_begin a_motor a_change a_startFrame a_changeFrame a_lostAt a_blackAt a_slips a_leftArc a_died a_arcs m_bestSum m_nearest m_nearestTown a_there a_backAt a_sorted a_parts m_seed1 m_darkNow d_motor d_change (iv_w iv_73 (by decide) (by decide))) dX11_burn_93 mw1022 mw1023 mw1024 mw5 mw1025 rfl 11 rfl rfl 0 _ rfl yk_yX11_needsOf_1 rfl (Nat.le_of_ble_eq_true rfl) (Nat.le_of_ble_eq_true rfl) (Nat.le_of_ble_eq_true rfl) (Nat.le_of_ble_eq_true rfl) (Nat.le_of_ble_eq_true rfl) rfl rfl (by decide) rfl (by decide) (by decide) ?_
        rintro r_76 w rfl
        refine k_ws [(cAI g a_r 311 d_r), (cAI g a_leftArc 8 uf_6), (cAI g a_died 8 uf_5), (cAI g a_arcs 2 fa_74), (cO11_i1r1i10r1i2r5i2r12i3r4i2 h0 m_thrown a_tape m_taped m_size m_at m_end m_token m_whole m_nameSize m_fault m_place m_trouble a_letters m_failed m_hasHouse a_r a_fresh a_st a_undone a_kept m_undos m_images a_from a_begin a_motor a_change a_startFrame a_changeFrame a_lostAt a_blackAt a_slips a_leftArc a_died a_arcs m_bestSum m_nearest m_nearestTown a_there a_backAt a_sorted a_parts m_seed1 m_darkNow), (cAI g a_motor 8 d_motor), (cAI g a_change 8 d_change)] rfl ?_
        refine k_ic_ge 103 X dX11_burn_96 (by decide) (fun h_77 => ?_) (fun h_77 => ?_)
        · skip
          have j_78 : r_76.toInt ≤ z_75.toInt := iv_le h_77
          refine k_iconst (v := 0) X dX11_burn_103 (by decide) ?_
          refine k_istore [(5, .int 0), (4, .int z_22), (3, .int u_9), (2, .int u_7), (0, .ref h0), (1, .int p0)] X dX11_burn_104 (by decide) rfl ?_
          refine k_aload_n X dX11_burn_106 4 rfl ?_
          refine k_get (ci := 11) X inlX11 rfl 32 (by decide) dX11_burn_107 mw185 4 rfl rfl ?_
          refine k_iload_n X dX11_burn_110 2 rfl ?_
          refine k_iload X dX11_burn_111 0 rfl ?_
          refine k_if_eq 120 X dX11_burn_113 (by decide) (fun _ => ?_) (fun h_79 => absurd (by decide) h_79)
          refine k_iconst (v := 0) X dX11_burn_120 (by decide) ?_
          refine k_iast [(cAI g a_r 311 d_r), (cAI g a_leftArc 8 uf_6), (cAI g a_died 8 (upd uf_5 (u_9 : Int32).toNatClampNeg 0)), (cAI g a_arcs 2 fa_74), (cO11_i1r1i10r1i2r5i2r12i3r4i2 h0 m_thrown a_tape m_taped m_size m_at m_end m_token m_whole m_nameSize m_fault m_place m_trouble a_letters m_failed m_hasHouse a_r a_fresh a_st a_undone a_kept m_undos m_images a_from a_begin a_motor a_change a_startFrame a_changeFrame a_lostAt a_blackAt a_slips a_leftArc a_died a_arcs m_bestSum m_nearest m_nearestTown a_there a_backAt a_sorted a_parts m_seed1 m_darkNow), (cAI g a_motor 8 d_motor), (cAI g a_change 8 d_change)] X dX11_burn_121 2 rfl (iv_in iv_73 (by decide) (by decide)) rfl ?_
          refine (fun hg : ∀ fa_80 : Nat → Int32, Wk p l e _ s m args below meth c _ A g _ _ _ [(cAI g a_r 311 d_r), (cAI g a_leftArc 8 uf_6), (cAI g a_died 8 fa_80), (cAI g a_arcs 2 fa_74), (cO11_i1r1i10r1i2r5i2r12i3r4i2 h0 m_thrown a_tape m_taped m_size m_at m_end m_token m_whole m_nameSize m_fault m_place m_trouble a_letters m_failed m_hasHouse a_r a_fresh a_st a_undone a_kept m_undos m_images a_from a_begin a_motor a_change a_startFrame a_changeFrame a_lostAt a_blackAt a_slips a_leftArc a_died a_arcs m_bestSum m_nearest m_nearestTown a_there a_backAt a_sorted a_parts m_seed1 m_darkNow), (cAI g a_motor 8 d_motor), (cAI g a_change 8 d_change)] _ _ _ => hg _) (fun fa_80 => ?_)
          refine k_aload_n X dX11_burn_122 4 rfl ?_
          refine k_get (ci := 11) X inlX11 rfl 33 (by decide) dX11_burn_123 mw186 4 rfl rfl ?_
          refine k_iload X dX11_burn_126 1 rfl ?_
          refine k_iload X dX11_burn_128 0 rfl ?_
          refine k_if_eq 142 X dX11_burn_130 (by decide) (fun _ => ?_) (fun h_81 => absurd (by decide) h_81)
          refine k_aload_n X dX11_burn_142 4 rfl ?_
          refine k_get (ci := 11) X inlX11 rfl 33 (by decide) dX11_burn_143 mw186 4 rfl rfl ?_
          refine k_iload X dX11_burn_146 1 rfl ?_
          refine k_iald X dX11_burn_148 3 rfl (iv_in iv_23 (by decide) (by decide)) ?_
          refine k_to z_75 ez_75.symm ?_
          refine k_aload_n X dX11_burn_149 4 rfl ?_
          refine k_iload_n X dX11_burn_150 2 rfl ?_
          refine k_callVI (n := 1) (As := [.int u_9]) (st := [.int z_75, .int z_22, .ref a_arcs]) X [(cO11_i1r1i10r1i2r5i2r12i3r4i2 h0 m_thrown a_tape m_taped m_size m_at m_end m_token m_whole m_nameSize m_fault m_place m_trouble a_letters m_failed m_hasHouse a_r a_fresh a_st a_undone a_kept m_undos m_images a_from a_begin a_motor a_change a_startFrame a_changeFrame a_lostAt a_blackAt a_slips a_leftArc a_died a_arcs m_bestSum m_nearest m_nearestTown a_there a_backAt a_sorted a_parts m_seed1 m_darkNow), (cAI g a_motor 8 d_motor), (cAI g a_change 8 d_change)] [(cAI g a_r 311 d_r), (cAI g a_leftArc 8 uf_6), (cAI g a_died 8 fa_80), (cAI g a_arcs 2 fa_74)] [4, 5, 6] [0, 1, 2, 3] (m_needsOf l g h0 u_9 m_thrown a_tape m_taped m_size m_at m_end m_token m_whole m_nameSize m_fault m_place m_trouble a_letters m_failed m_hasHouse a_r a_fresh a_st a_undone a_kept m_undos m_images a_from a_begin a_motor a_change a_startFrame a_changeFrame a_lostAt a_blackAt a_slips a_leftArc a_died a_arcs m_bestSum m_nearest m_nearestTown a_there a_backAt a_sorted a_parts m_seed1 m_darkNow d_motor d_change (iv_w iv_73 (by decide) (by decide))) dX11_burn_151 mw1022 mw1023 mw1024 mw5 mw1025 rfl 11 rfl rfl 0 _ rfl yk_yX11_needsOf_1 rfl (Nat.le_of_ble_eq_true rfl) (Nat.le_of_ble_eq_true rfl) (Nat.le_of_ble_eq_true rfl) (Nat.le_of_ble_eq_true rfl) (Nat.le_of_ble_eq_true rfl) rfl rfl (by decide) rfl (by decide) (by decide) ?_
          rintro r_82 w rfl
          refine k_ws [(cAI g a_r 311 d_r), (cAI g a_leftArc 8 uf_6), (cAI g a_died 8 fa_80), (cAI g a_arcs 2 fa_74), (cO11_i1r1i10r1i2r5i2r12i3r4i2 h0 m_thrown a_tape m_taped m_size m_at m_end m_token m_whole m_nameSize m_fault m_place m_trouble a_letters m_failed m_hasHouse a_r a_fresh a_st a_undone a_kept m_undos m_images a_from a_begin a_motor a_change a_startFrame a_changeFrame a_lostAt a_blackAt a_slips a_leftArc a_died a_arcs m_bestSum m_nearest m_nearestTown a_there a_backAt a_sorted a_parts m_seed1 m_darkNow), (cAI g a_motor 8 d_motor), (cAI g a_change 8 d_change)] rfl ?_
          refine k_isub X dX11_burn_154 ?_
          refine k_nm (fun z_83 ez_83 => ?_)
          refine k_iast [(cAI g a_r 311 d_r), (cAI g a_leftArc 8 uf_6), (cAI g a_died 8 fa_80), (cAI g a_arcs 2 (upd fa_74 (z_22 : Int32).toNatClampNeg z_83)), (cO11_i1r1i10r1i2r5i2r12i3r4i2 h0 m_thrown a_tape m_taped m_size m_at m_end m_token m_whole m_nameSize m_fault m_place m_trouble a_letters m_failed m_hasHouse a_r a_fresh a_st a_undone a_kept m_undos m_images a_from a_begin a_motor a_change a_startFrame a_changeFrame a_lostAt a_blackAt a_slips a_leftArc a_died a_arcs m_bestSum m_nearest m_nearestTown a_there a_backAt a_sorted a_parts m_seed1 m_darkNow), (cAI g a_motor 8 d_motor), (cAI g a_change 8 d_change)] X dX11_burn_155 3 rfl (iv_in iv_23 (by decide) (by decide)) rfl ?_
          refine (fun hg : ∀ fa_85 : Nat → Int32, Wk p l e _ s m args below meth c _ A g _ _ _ [(cAI g a_r 311 d_r), (cAI g a_leftArc 8 uf_6), (cAI g a_died 8 fa_80), (cAI g a_arcs 2 fa_85), (cO11_i1r1i10r1i2r5i2r12i3r4i2 h0 m_thrown a_tape m_taped m_size m_at m_end m_token m_whole m_nameSize m_fault m_place m_trouble a_letters m_failed m_hasHouse a_r a_fresh a_st a_undone a_kept m_undos m_images a_from a_begin a_motor a_change a_startFrame a_changeFrame a_lostAt a_blackAt a_slips a_leftArc a_died a_arcs m_bestSum m_nearest m_nearestTown a_there a_backAt a_sorted a_parts m_seed1 m_darkNow), (cAI g a_motor 8 d_motor), (cAI g a_change 8 d_change)] _ _ _ => hg _) (fun fa_85 => ?_)
          refine k_aload_n X dX11_burn_156 4 rfl ?_
          refine k_get (ci := 11) X inlX11 rfl 31 (by decide) dX11_burn_157 mw184 4 rfl rfl ?_
          refine k_iload_n X dX11_burn_160 2 rfl ?_
          refine k_aload_n X dX11_burn_161 4 rfl ?_
          refine k_get (ci := 11) X inlX11 rfl 33 (by decide) dX11_burn_162 mw186 4 rfl rfl ?_
          refine k_iload X dX11_burn_165 1 rfl ?_
          refine k_iald X dX11_burn_167 3 rfl (iv_in iv_23 (by decide) (by decide)) ?_
          refine k_nm (fun z_86 ez_86 => ?_)
          refine k_iast [(cAI g a_r 311 d_r), (cAI g a_leftArc 8 (upd uf_6 (u_9 : Int32).toNatClampNeg z_86)), (cAI g a_died 8 fa_80), (cAI g a_arcs 2 fa_85), (cO11_i1r1i10r1i2r5i2r12i3r4i2 h0 m_thrown a_tape m_taped m_size m_at m_end m_token m_whole m_nameSize m_fault m_place m_trouble a_letters m_failed m_hasHouse a_r a_fresh a_st a_undone a_kept m_undos m_images a_from a_begin a_motor a_change a_startFrame a_changeFrame a_lostAt a_blackAt a_slips a_leftArc a_died a_arcs m_bestSum m_nearest m_nearestTown a_there a_backAt a_sorted a_parts m_seed1 m_darkNow), (cAI g a_motor 8 d_motor), (cAI g a_change 8 d_change)] X dX11_burn_168 1 rfl (iv_in iv_73 (by decide) (by decide)) rfl ?_
          refine (fun hg : ∀ fa_87 : Nat → Int32, Wk p l e _ s m args below meth c _ A g _ _ _ [(cAI g a_r 311 d_r), (cAI g a_leftArc 8 fa_87), (cAI g a_died 8 fa_80), (cAI g a_arcs 2 fa_85), (cO11_i1r1i10r1i2r5i2r12i3r4i2 h0 m_thrown a_tape m_taped m_size m_at m_end m_token m_whole m_nameSize m_fault m_place m_trouble a_letters m_failed m_hasHouse a_r a_fresh a_st a_undone a_kept m_undos m_images a_from a_begin a_motor a_change a_startFrame a_changeFrame a_lostAt a_blackAt a_slips a_leftArc a_died a_arcs m_bestSum m_nearest m_nearestTown a_there a_backAt a_sorted a_parts m_seed1 m_darkNow), (cAI g a_motor 8 d_motor), (cAI g a_change 8 d_change)] _ _ _ => hg _) (fun fa_87 => ?_)
          refine k_iload_n X dX11_burn_169 3 rfl ?_
          refine k_if_eq 182 X dX11_burn_170 (by decide) (fun h_88 => ?_) (fun h_88 => ?_)
          · skip
            have iv_89 : IV u_7 0 0 := iv_meet hv_8 (iv_e h_88 (show IV 0 0 0 from (by decide))) (by decide) (by decide)
            refine k_iconst (v := 0) X dX11_burn_182 (by decide) ?_
            refine k_istore_n [(2, .int 0), (5, .int 0), (4, .int z_22), (3, .int u_9), (0, .ref h0), (1, .int p0)] X dX11_burn_183 (by decide) rfl ?_
            obtain ⟨z_90, ez_90⟩ : ∃ y : Int32, u_9 + Int32.ofInt 1 = y := ⟨_, rfl⟩
            refine k_iinc z_90 [(3, .int z_90), (2, .int 0), (5, .int 0), (4, .int z_22), (0, .ref h0), (1, .int p0)] 3 X dX11_burn_184 rfl ez_90 (by decide) rfl ?_
            have i_91 : z_90.toInt = u_9.toInt + 1 := in_inc ez_90 (by decide) iv_73 (by decide) (by decide)
            have iv_92 : IV z_90 1 2 := iz1 i_91 iv_73 (by decide) (by decide)
            refine k_goto 28 X dX11_burn_187 (by decide) ?_
            refine k_lv [(3, .int z_90), (2, .int 0), (0, .ref h0), (1, .int p0)] [0, 1, 4, 5] rfl ?_
            refine k_sub [(cO11_i1r1i10r1i2r5i2r12i3r4i2 h0 m_thrown a_tape m_taped m_size m_at m_end m_token m_whole m_nameSize m_fault m_place m_trouble a_letters m_failed m_hasHouse a_r a_fresh a_st a_undone a_kept m_undos m_images a_from a_begin a_motor a_change a_startFrame a_changeFrame a_lostAt a_blackAt a_slips a_leftArc a_died a_arcs m_bestSum m_nearest m_nearestTown a_there a_backAt a_sorted a_parts m_seed1 m_darkNow), (cAI g a_r 311 d_r), (cAI g a_motor 8 d_motor), (cAI g a_change 8 d_change), (cAI g a_leftArc 8 fa_87), (cAI g a_died 8 fa_80), (cAI g a_arcs 2 fa_85)] [4, 0, 5, 6, 1, 2, 3] rfl (by decide) rfl ?_
            exact ih_13 _ (by omega) fa_85 fa_80 fa_87 0 z_90 rfl (iv_w (show IV 0 0 0 from (by decide)) (by decide) (by decide)) (iv_w iv_92 (by decide) (by decide))
          · skip
            have iv_93 : IV u_7 1 1 := iv_neL h_88 hv_8 (show IV 0 0 0 from (by decide)) (by decide)
            refine k_iload X dX11_burn_173 0 rfl ?_
            refine k_if_ne 182 X dX11_burn_175 (by decide) (fun h_94 => absurd h_94 (by decide)) (fun _ => ?_)
            refine k_iconst (v := 1) X dX11_burn_178 (by decide) ?_
            refine k_goto 183 X dX11_burn_179 (by decide) ?_
            refine k_istore_n [(2, .int 1), (5, .int 0), (4, .int z_22), (3, .int u_9), (0, .ref h0), (1, .int p0)] X dX11_burn_183 (by decide) rfl ?_
            obtain ⟨z_95, ez_95⟩ : ∃ y : Int32, u_9 + Int32.ofInt 1 = y := ⟨_, rfl⟩
            refine k_iinc z_95 [(3, .int z_95), (2, .int 1), (5, .int 0), (4, .int z_22), (0, .ref h0), (1, .int p0)] 3 X dX11_burn_184 rfl ez_95 (by decide) rfl ?_
            have i_96 : z_95.toInt = u_9.toInt + 1 := in_inc ez_95 (by decide) iv_73 (by decide) (by decide)
            have iv_97 : IV z_95 1 2 := iz1 i_96 iv_73 (by decide) (by decide)
            refine k_goto 28 X dX11_burn_187 (by decide) ?_
            refine k_lv [(3, .int z_95), (2, .int 1), (0, .ref h0), (1, .int p0)] [0, 1, 4, 5] rfl ?_
            refine k_sub [(cO11_i1r1i10r1i2r5i2r12i3r4i2 h0 m_thrown a_tape m_taped m_size m_at m_end m_token m_whole m_nameSize m_fault m_place m_trouble a_letters m_failed m_hasHouse a_r a_fresh a_st a_undone a_kept m_undos m_images a_from a_begin a_motor a_change a_startFrame a_changeFrame a_lostAt a_blackAt a_slips a_leftArc a_died a_arcs m_bestSum m_nearest m_nearestTown a_there a_backAt a_sorted a_parts m_seed1 m_darkNow), (cAI g a_r 311 d_r), (cAI g a_motor 8 d_motor), (cAI g a_change 8 d_change), (cAI g a_leftArc 8 fa_87), (cAI g a_died 8 fa_80), (cAI g a_arcs 2 fa_85)] [4, 0, 5, 6, 1, 2, 3] rfl (by decide) rfl ?_
            exact ih_13 _ (by omega) fa_85 fa_80 fa_87 1 z_95 rfl (iv_w (show IV 1 1 1 from (by decide)) (by decide) (by decide)) (iv_w iv_97 (by decide) (by decide))
        · skip
          have j_98 : z_75.toInt < r_76.toInt := iv_nle h_77
          have iv_99 : IV z_75 (-2147483648) 2147483646 := iv_ltL (iv_nle h_77) (iv_any z_75) (iv_any r_76) (by decide)
          have iv_100 : IV r_76 (-2147483647) 2147483647 := iv_ltR (iv_nle h_77) (iv_any z_75) (iv_any r_76) (by decide)
          refine k_iconst (v := 1) X dX11_burn_99 (by decide) ?_
          refine k_goto 104 X dX11_burn_100 (by decide) ?_
          refine k_istore [(5, .int 1), (4, .int z_22), (3, .int u_9), (2, .int u_7), (0, .ref h0), (1, .int p0)] X dX11_burn_104 (by decide) rfl ?_
          refine k_aload_n X dX11_burn_106 4 rfl ?_
          refine k_get (ci := 11) X inlX11 rfl 32 (by decide) dX11_burn_107 mw185 4 rfl rfl ?_
          refine k_iload_n X dX11_burn_110 2 rfl ?_
          refine k_iload X dX11_burn_111 0 rfl ?_
          refine k_if_eq 120 X dX11_burn_113 (by decide) (fun h_101 => absurd h_101 (by decide)) (fun _ => ?_)
          refine k_iconst (v := 1) X dX11_burn_116 (by decide) ?_
          refine k_goto 121 X dX11_burn_117 (by decide) ?_
          refine k_iast [(cAI g a_r 311 d_r), (cAI g a_leftArc 8 uf_6), (cAI g a_died 8 (upd uf_5 (u_9 : Int32).toNatClampNeg 1)), (cAI g a_arcs 2 fa_74), (cO11_i1r1i10r1i2r5i2r12i3r4i2 h0 m_thrown a_tape m_taped m_size m_at m_end m_token m_whole m_nameSize m_fault m_place m_trouble a_letters m_failed m_hasHouse a_r a_fresh a_st a_undone a_kept m_undos m_images a_from a_begin a_motor a_change a_startFrame a_changeFrame a_lostAt a_blackAt a_slips a_leftArc a_died a_arcs m_bestSum m_nearest m_nearestTown a_there a_backAt a_sorted a_parts m_seed1 m_darkNow), (cAI g a_motor 8 d_motor), (cAI g a_change 8 d_change)] X dX11_burn_121 2 rfl (iv_in iv_73 (by decide) (by decide)) rfl ?_
          refine (fun hg : ∀ fa_102 : Nat → Int32, Wk p l e _ s m args below meth c _ A g _ _ _ [(cAI g a_r 311 d_r), (cAI g a_leftArc 8 uf_6), (cAI g a_died 8 fa_102), (cAI g a_arcs 2 fa_74), (cO11_i1r1i10r1i2r5i2r12i3r4i2 h0 m_thrown a_tape m_taped m_size m_at m_end m_token m_whole m_nameSize m_fault m_place m_trouble a_letters m_failed m_hasHouse a_r a_fresh a_st a_undone a_kept m_undos m_images a_from a_begin a_motor a_change a_startFrame a_changeFrame a_lostAt a_blackAt a_slips a_leftArc a_died a_arcs m_bestSum m_nearest m_nearestTown a_there a_backAt a_sorted a_parts m_seed1 m_darkNow), (cAI g a_motor 8 d_motor), (cAI g a_change 8 d_change)] _ _ _ => hg _) (fun fa_102 => ?_)
          refine k_aload_n X dX11_burn_122 4 rfl ?_
          refine k_get (ci := 11) X inlX11 rfl 33 (by decide) dX11_burn_123 mw186 4 rfl rfl ?_
          refine k_iload X dX11_burn_126 1 rfl ?_
          refine k_iload X dX11_burn_128 0 rfl ?_
          refine k_if_eq 142 X dX11_burn_130 (by decide) (fun h_103 => absurd h_103 (by decide)) (fun _ => ?_)
          refine k_aload_n X dX11_burn_133 4 rfl ?_
          refine k_get (ci := 11) X inlX11 rfl 15 (by decide) dX11_burn_134 mw170 4 rfl rfl ?_
          refine k_iconst (v := 3) X dX11_burn_137 (by decide) ?_
          refine k_iald X dX11_burn_138 0 rfl (by unfold vp_in; decide) ?_
          refine k_to z_1 ez_1.symm ?_
          refine k_goto 155 X dX11_burn_139 (by decide) ?_
          refine k_iast [(cAI g a_r 311 d_r), (cAI g a_leftArc 8 uf_6), (cAI g a_died 8 fa_102), (cAI g a_arcs 2 (upd fa_74 (z_22 : Int32).toNatClampNeg z_1)), (cO11_i1r1i10r1i2r5i2r12i3r4i2 h0 m_thrown a_tape m_taped m_size m_at m_end m_token m_whole m_nameSize m_fault m_place m_trouble a_letters m_failed m_hasHouse a_r a_fresh a_st a_undone a_kept m_undos m_images a_from a_begin a_motor a_change a_startFrame a_changeFrame a_lostAt a_blackAt a_slips a_leftArc a_died a_arcs m_bestSum m_nearest m_nearestTown a_there a_backAt a_sorted a_parts m_seed1 m_darkNow), (cAI g a_motor 8 d_motor), (cAI g a_change 8 d_change)] X dX11_burn_155 3 rfl (iv_in iv_23 (by decide) (by decide)) rfl ?_
          refine (fun hg : ∀ fa_104 : Nat → Int32, Wk p l e _ s m args below meth c _ A g _ _ _ [(cAI g a_r 311 d_r), (cAI g a_leftArc 8 uf_6), (cAI g a_died 8 fa_102), (cAI g a_arcs 2 fa_104), (cO11_i1r1i10r1i2r5i2r12i3r4i2 h0 m_thrown a_tape m_taped m_size m_at m_end m_token m_whole m_nameSize m_fault m_place m_trouble a_letters m_failed m_hasHouse a_r a_fresh a_st a_undone a_kept m_undos m_images a_from a_begin a_motor a_change a_startFrame a_changeFrame a_lostAt a_blackAt a_slips a_leftArc a_died a_arcs m_bestSum m_nearest m_nearestTown a_there a_backAt a_sorted a_parts m_seed1 m_darkNow), (cAI g a_motor 8 d_motor), (cAI g a_change 8 d_change)] _ _ _ => hg _) (fun fa_104 => ?_)
          refine k_aload_n X dX11_burn_156 4 rfl ?_
          refine k_get (ci := 11) X inlX11 rfl 31 (by decide) dX11_burn_157 mw184 4 rfl rfl ?_
          refine k_iload_n X dX11_burn_160 2 rfl ?_
          refine k_aload_n X dX11_burn_161 4 rfl ?_
          refine k_get (ci := 11) X inlX11 rfl 33 (by decide) dX11_burn_162 mw186 4 rfl rfl ?_
          refine k_iload X dX11_burn_165 1 rfl ?_
          refine k_iald X dX11_burn_167 3 rfl (iv_in iv_23 (by decide) (by decide)) ?_
          refine k_nm (fun z_105 ez_105 => ?_)
          refine k_iast [(cAI g a_r 311 d_r), (cAI g a_leftArc 8 (upd uf_6 (u_9 : Int32).toNatClampNeg z_105)), (cAI g a_died 8 fa_102), (cAI g a_arcs 2 fa_104), (cO11_i1r1i10r1i2r5i2r12i3r4i2 h0 m_thrown a_tape m_taped m_size m_at m_end m_token m_whole m_nameSize m_fault m_place m_trouble a_letters m_failed m_hasHouse a_r a_fresh a_st a_undone a_kept m_undos m_images a_from a_begin a_motor a_change a_startFrame a_changeFrame a_lostAt a_blackAt a_slips a_leftArc a_died a_arcs m_bestSum m_nearest m_nearestTown a_there a_backAt a_sorted a_parts m_seed1 m_darkNow), (cAI g a_motor 8 d_motor), (cAI g a_change 8 d_change)] X dX11_burn_168 1 rfl (iv_in iv_73 (by decide) (by decide)) rfl ?_
          refine (fun hg : ∀ fa_106 : Nat → Int32, Wk p l e _ s m args below meth c _ A g _ _ _ [(cAI g a_r 311 d_r), (cAI g a_leftArc 8 fa_106), (cAI g a_died 8 fa_102), (cAI g a_arcs 2 fa_104), (cO11_i1r1i10r1i2r5i2r12i3r4i2 h0 m_thrown a_tape m_taped m_size m_at m_end m_token m_whole m_nameSize m_fault m_place m_trouble a_letters m_failed m_hasHouse a_r a_fresh a_st a_undone a_kept m_undos m_images a_from a_begin a_motor a_change a_startFrame a_changeFrame a_lostAt a_blackAt a_slips a_leftArc a_died a_arcs m_bestSum m_nearest m_nearestTown a_there a_backAt a_sorted a_parts m_seed1 m_darkNow), (cAI g a_motor 8 d_motor), (cAI g a_change 8 d_change)] _ _ _ => hg _) (fun fa_106 => ?_)
          refine k_iload_n X dX11_burn_169 3 rfl ?_
          refine k_if_eq 182 X dX11_burn_170 (by decide) (fun h_107 => ?_) (fun h_107 => ?_)
          · skip
            have iv_108 : IV u_7 0 0 := iv_meet hv_8 (iv_e h_107 (show IV 0 0 0 from (by decide))) (by decide) (by decide)
            refine k_iconst (v := 0) X dX11_burn_182 (by decide) ?_
            refine k_istore_n [(2, .int 0), (5, .int 1), (4, .int z_22), (3, .int u_9), (0, .ref h0), (1, .int p0)] X dX11_burn_183 (by decide) rfl ?_
            obtain ⟨z_109, ez_109⟩ : ∃ y : Int32, u_9 + Int32.ofInt 1 = y := ⟨_, rfl⟩
            refine k_iinc z_109 [(3, .int z_109), (2, .int 0), (5, .int 1), (4, .int z_22), (0, .ref h0), (1, .int p0)] 3 X dX11_burn_184 rfl ez_109 (by decide) rfl ?_
            have i_110 : z_109.toInt = u_9.toInt + 1 := in_inc ez_109 (by decide) iv_73 (by decide) (by decide)
            have iv_111 : IV z_109 1 2 := iz1 i_110 iv_73 (by decide) (by decide)
            refine k_goto 28 X dX11_burn_187 (by decide) ?_
            refine k_lv [(3, .int z_109), (2, .int 0), (0, .ref h0), (1, .int p0)] [0, 1, 4, 5] rfl ?_
            refine k_sub [(cO11_i1r1i10r1i2r5i2r12i3r4i2 h0 m_thrown a_tape m_taped m_size m_at m_end m_token m_whole m_nameSize m_fault m_place m_trouble a_letters m_failed m_hasHouse a_r a_fresh a_st a_undone a_kept m_undos m_images a_from a_begin a_motor a_change a_startFrame a_changeFrame a_lostAt a_blackAt a_slips a_leftArc a_died a_arcs m_bestSum m_nearest m_nearestTown a_there a_backAt a_sorted a_parts m_seed1 m_darkNow), (cAI g a_r 311 d_r), (cAI g a_motor 8 d_motor), (cAI g a_change 8 d_change), (cAI g a_leftArc 8 fa_106), (cAI g a_died 8 fa_102), (cAI g a_arcs 2 fa_104)] [4, 0, 5, 6, 1, 2, 3] rfl (by decide) rfl ?_
            exact ih_13 _ (by omega) fa_104 fa_102 fa_106 0 z_109 rfl (iv_w (show IV 0 0 0 from (by decide)) (by decide) (by decide)) (iv_w iv_111 (by decide) (by decide))
          · skip
            have iv_112 : IV u_7 1 1 := iv_neL h_107 hv_8 (show IV 0 0 0 from (by decide)) (by decide)
            refine k_iload X dX11_burn_173 0 rfl ?_
            refine k_if_ne 182 X dX11_burn_175 (by decide) (fun _ => ?_) (fun h_113 => absurd h_113 (by decide))
            refine k_iconst (v := 0) X dX11_burn_182 (by decide) ?_
            refine k_istore_n [(2, .int 0), (5, .int 1), (4, .int z_22), (3, .int u_9), (0, .ref h0), (1, .int p0)] X dX11_burn_183 (by decide) rfl ?_
            obtain ⟨z_114, ez_114⟩ : ∃ y : Int32, u_9 + Int32.ofInt 1 = y := ⟨_, rfl⟩
            refine k_iinc z_114 [(3, .int z_114), (2, .int 0), (5, .int 1), (4, .int z_22), (0, .ref h0), (1, .int p0)] 3 X dX11_burn_184 rfl ez_114 (by decide) rfl ?_
            have i_115 : z_114.toInt = u_9.toInt + 1 := in_inc ez_114 (by decide) iv_73 (by decide) (by decide)
            have iv_116 : IV z_114 1 2 := iz1 i_115 iv_73 (by decide) (by decide)
            refine k_goto 28 X dX11_burn_187 (by decide) ?_
            refine k_lv [(3, .int z_114), (2, .int 0), (0, .ref h0), (1, .int p0)] [0, 1, 4, 5] rfl ?_
            refine k_sub [(cO11_i1r1i10r1i2r5i2r12i3r4i2 h0 m_thrown a_tape m_taped m_size m_at m_end m_token m_whole m_nameSize m_fault m_place m_trouble a_letters m_failed m_hasHouse a_r a_fresh a_st a_undone a_kept m_undos m_images a_from a_begin a_motor a_change a_startFrame a_changeFrame a_lostAt a_blackAt a_slips a_leftArc a_died a_arcs m_bestSum m_nearest m_nearestTown a_there a_backAt a_sorted a_parts m_seed1 m_darkNow), (cAI g a_r 311 d_r), (cAI g a_motor 8 d_motor), (cAI g a_change 8 d_change), (cAI g a_leftArc 8 fa_106), (cAI g a_died 8 fa_102), (cAI g a_arcs 2 fa_104)] [4, 0, 5, 6, 1, 2, 3] rfl (by decide) rfl ?_
            exact ih_13 _ (by omega) fa_104 fa_102 fa_106 0 z_114 rfl (iv_w (show IV 0 0 0 from (by decide)) (by decide) (by decide)) (iv_w iv_116 (by decide) (by decide))
      · skip
        have j_117 : 2 ≤ u_9.toInt := iv_nlt h_71
        have iv_118 : IV u_9 2 7 := iv_leR (iv_nlt h_71) (show IV 2 2 2 from (by decide)) iv_20 (by decide)
        refine k_aload_n X dX11_burn_57 3 rfl ?_
        refine k_iload_n X dX11_burn_58 1 rfl ?_
        refine k_callVI (n := 1) (As := [.int u_9]) (st := []) X [(cO11_i1r1i10r1i2r5i2r12i3r4i2 h0 m_thrown a_tape m_taped m_size m_at m_end m_token m_whole m_nameSize m_fault m_place m_trouble a_letters m_failed m_hasHouse a_r a_fresh a_st a_undone a_kept m_undos m_images a_from a_begin a_motor a_change a_startFrame a_changeFrame a_lostAt a_blackAt a_slips a_leftArc a_died a_arcs m_bestSum m_nearest m_nearestTown a_there a_backAt a_sorted a_parts m_seed1 m_darkNow), (cAI g a_motor 8 d_motor), (cAI g a_change 8 d_change)] [(cAI g a_r 311 d_r), (cAI g a_leftArc 8 uf_6), (cAI g a_died 8 uf_5), (cAI g a_arcs 2 uf_4)] [0, 2, 3] [1, 4, 5, 6] (m_freeOf l g h0 u_9 m_thrown a_tape m_taped m_size m_at m_end m_token m_whole m_nameSize m_fault m_place m_trouble a_letters m_failed m_hasHouse a_r a_fresh a_st a_undone a_kept m_undos m_images a_from a_begin a_motor a_change a_startFrame a_changeFrame a_lostAt a_blackAt a_slips a_leftArc a_died a_arcs m_bestSum m_nearest m_nearestTown a_there a_backAt a_sorted a_parts m_seed1 m_darkNow d_motor d_change (iv_w iv_118 (by decide) (by decide))) dX11_burn_59 mw1054 mw1055 mw1056 mw5 mw1057 rfl 11 rfl rfl 0 _ rfl yk_yX11_freeOf_1 rfl (Nat.le_of_ble_eq_true rfl) (Nat.le_of_ble_eq_true rfl) (Nat.le_of_ble_eq_true rfl) (Nat.le_of_ble_eq_true rfl) (Nat.le_of_ble_eq_true rfl) rfl rfl (by decide) rfl (by decide) (by decide) ?_
        rintro r_119 w rfl
        refine k_ws [(cAI g a_r 311 d_r), (cAI g a_leftArc 8 uf_6), (cAI g a_died 8 uf_5), (cAI g a_arcs 2 uf_4), (cO11_i1r1i10r1i2r5i2r12i3r4i2 h0 m_thrown a_tape m_taped m_size m_at m_end m_token m_whole m_nameSize m_fault m_place m_trouble a_letters m_failed m_hasHouse a_r a_fresh a_st a_undone a_kept m_undos m_images a_from a_begin a_motor a_change a_startFrame a_changeFrame a_lostAt a_blackAt a_slips a_leftArc a_died a_arcs m_bestSum m_nearest m_nearestTown a_there a_backAt a_sorted a_parts m_seed1 m_darkNow), (cAI g a_motor 8 d_motor), (cAI g a_change 8 d_change)] rfl ?_
        refine k_aload_n X dX11_burn_62 3 rfl ?_
        refine k_get (ci := 11) X inlX11 rfl 15 (by decide) dX11_burn_63 mw170 4 rfl rfl ?_
        refine k_iconst (v := 4) X dX11_burn_66 (by decide) ?_
        refine k_iald X dX11_burn_67 0 rfl (by unfold vp_in; decide) ?_
        refine k_nm (fun z_120 ez_120 => ?_)
        refine k_ic_lt 84 X dX11_burn_68 (by decide) (fun h_121 => ?_) (fun h_121 => ?_)
        · skip
          have j_122 : r_119.toInt < z_120.toInt := iv_lt h_121
          have iv_123 : IV r_119 (-2147483648) 2147483646 := iv_ltL (iv_lt h_121) (iv_any r_119) (iv_any z_120) (by decide)
          have iv_124 : IV z_120 (-2147483647) 2147483647 := iv_ltR (iv_lt h_121) (iv_any r_119) (iv_any z_120) (by decide)
          refine k_aload_n X dX11_burn_84 3 rfl ?_
          refine k_get (ci := 11) X inlX11 rfl 33 (by decide) dX11_burn_85 mw186 4 rfl rfl ?_
          refine k_iload X dX11_burn_88 0 rfl ?_
          refine k_iald X dX11_burn_90 3 rfl (iv_in iv_23 (by decide) (by decide)) ?_
          refine k_nm (fun z_125 ez_125 => ?_)
          refine k_aload_n X dX11_burn_91 3 rfl ?_
          refine k_iload_n X dX11_burn_92 1 rfl ?_
          refine k_callVI (n := 1) (As := [.int u_9]) (st := [.int z_125]) X [(cO11_i1r1i10r1i2r5i2r12i3r4i2 h0 m_thrown a_tape m_taped m_size m_at m_end m_token m_whole m_nameSize m_fault m_place m_trouble a_letters m_failed m_hasHouse a_r a_fresh a_st a_undone a_kept m_undos m_images a_from a_begin a_motor a_change a_startFrame a_changeFrame a_lostAt a_blackAt a_slips a_leftArc a_died a_arcs m_bestSum m_nearest m_nearestTown a_there a_backAt a_sorted a_parts m_seed1 m_darkNow), (cAI g a_motor 8 d_motor), (cAI g a_change 8 d_change)] [(cAI g a_r 311 d_r), (cAI g a_leftArc 8 uf_6), (cAI g a_died 8 uf_5), (cAI g a_arcs 2 uf_4)] [4, 5, 6] [0, 1, 2, 3] (m_needsOf l g h0 u_9 m_thrown a_tape m_taped m_size m_at m_end m_token m_whole m_nameSize m_fault m_place m_trouble a_letters m_failed m_hasHouse a_r a_fresh a_st a_undone a_kept m_undos m_images a_from a_begin a_motor a_change a_startFrame a_changeFrame a_lostAt a_blackAt a_slips a_leftArc a_died a_arcs m_bestSum m_nearest m_nearestTown a_there a_backAt a_sorted a_parts m_seed1 m_darkNow d_motor d_change (iv_w iv_118 (by decide) (by decide))) dX11_burn_93 mw1022 mw1023 mw1024 mw5 mw1025 rfl 11 rfl rfl 0 _ rfl yk_yX11_needsOf_1 rfl (Nat.le_of_ble_eq_true rfl) (Nat.le_of_ble_eq_true rfl) (Nat.le_of_ble_eq_true rfl) (Nat.le_of_ble_eq_true rfl) (Nat.le_of_ble_eq_true rfl) rfl rfl (by decide) rfl (by decide) (by decide) ?_
          rintro r_126 w rfl
          refine k_ws [(cAI g a_r 311 d_r), (cAI g a_leftArc 8 uf_6), (cAI g a_died 8 uf_5), (cAI g a_arcs 2 uf_4), (cO11_i1r1i10r1i2r5i2r12i3r4i2 h0 m_thrown a_tape m_taped m_size m_at m_end m_token m_whole m_nameSize m_fault m_place m_trouble a_letters m_failed m_hasHouse a_r a_fresh a_st a_undone a_kept m_undos m_images a_from a_begin a_motor a_change a_startFrame a_changeFrame a_lostAt a_blackAt a_slips a_leftArc a_died a_arcs m_bestSum m_nearest m_nearestTown a_there a_backAt a_sorted a_parts m_seed1 m_darkNow), (cAI g a_motor 8 d_motor), (cAI g a_change 8 d_change)] rfl ?_
          refine k_ic_ge 103 X dX11_burn_96 (by decide) (fun h_127 => ?_) (fun h_127 => ?_)
          · skip
            have j_128 : r_126.toInt ≤ z_125.toInt := iv_le h_127
            refine k_iconst (v := 0) X dX11_burn_103 (by decide) ?_
            refine k_istore [(5, .int 0), (4, .int z_22), (3, .int u_9), (2, .int u_7), (0, .ref h0), (1, .int p0)] X dX11_burn_104 (by decide) rfl ?_
            refine k_aload_n X dX11_burn_106 4 rfl ?_
            refine k_get (ci := 11) X inlX11 rfl 32 (by decide) dX11_burn_107 mw185 4 rfl rfl ?_
            refine k_iload_n X dX11_burn_110 2 rfl ?_
            refine k_iload X dX11_burn_111 0 rfl ?_
            refine k_if_eq 120 X dX11_burn_113 (by decide) (fun _ => ?_) (fun h_129 => absurd (by decide) h_129)
            refine k_iconst (v := 0) X dX11_burn_120 (by decide) ?_
            refine k_iast [(cAI g a_r 311 d_r), (cAI g a_leftArc 8 uf_6), (cAI g a_died 8 (upd uf_5 (u_9 : Int32).toNatClampNeg 0)), (cAI g a_arcs 2 uf_4), (cO11_i1r1i10r1i2r5i2r12i3r4i2 h0 m_thrown a_tape m_taped m_size m_at m_end m_token m_whole m_nameSize m_fault m_place m_trouble a_letters m_failed m_hasHouse a_r a_fresh a_st a_undone a_kept m_undos m_images a_from a_begin a_motor a_change a_startFrame a_changeFrame a_lostAt a_blackAt a_slips a_leftArc a_died a_arcs m_bestSum m_nearest m_nearestTown a_there a_backAt a_sorted a_parts m_seed1 m_darkNow), (cAI g a_motor 8 d_motor), (cAI g a_change 8 d_change)] X dX11_burn_121 2 rfl (iv_in iv_118 (by decide) (by decide)) rfl ?_
            refine (fun hg : ∀ fa_130 : Nat → Int32, Wk p l e _ s m args below meth c _ A g _ _ _ [(cAI g a_r 311 d_r), (cAI g a_leftArc 8 uf_6), (cAI g a_died 8 fa_130), (cAI g a_arcs 2 uf_4), (cO11_i1r1i10r1i2r5i2r12i3r4i2 h0 m_thrown a_tape m_taped m_size m_at m_end m_token m_whole m_nameSize m_fault m_place m_trouble a_letters m_failed m_hasHouse a_r a_fresh a_st a_undone a_kept m_undos m_images a_from a_begin a_motor a_change a_startFrame a_changeFrame a_lostAt a_blackAt a_slips a_leftArc a_died a_arcs m_bestSum m_nearest m_nearestTown a_there a_backAt a_sorted a_parts m_seed1 m_darkNow), (cAI g a_motor 8 d_motor), (cAI g a_change 8 d_change)] _ _ _ => hg _) (fun fa_130 => ?_)
            refine k_aload_n X dX11_burn_122 4 rfl ?_
            refine k_get (ci := 11) X inlX11 rfl 33 (by decide) dX11_burn_123 mw186 4 rfl rfl ?_
            refine k_iload X dX11_burn_126 1 rfl ?_
            refine k_iload X dX11_burn_128 0 rfl ?_
            refine k_if_eq 142 X dX11_burn_130 (by decide) (fun _ => ?_) (fun h_131 => absurd (by decide) h_131)
            refine k_aload_n X dX11_burn_142 4 rfl ?_
            refine k_get (ci := 11) X inlX11 rfl 33 (by decide) dX11_burn_143 mw186 4 rfl rfl ?_
            refine k_iload X dX11_burn_146 1 rfl ?_
            refine k_iald X dX11_burn_148 3 rfl (iv_in iv_23 (by decide) (by decide)) ?_
            refine k_to z_125 ez_125.symm ?_
            refine k_aload_n X dX11_burn_149 4 rfl ?_
            refine k_iload_n X dX11_burn_150 2 rfl ?_
            refine k_callVI (n := 1) (As := [.int u_9]) (st := [.int z_125, .int z_22, .ref a_arcs]) X [(cO11_i1r1i10r1i2r5i2r12i3r4i2 h0 m_thrown a_tape m_taped m_size m_at m_end m_token m_whole m_nameSize m_fault m_place m_trouble a_letters m_failed m_hasHouse a_r a_fresh a_st a_undone a_kept m_undos m_images a_from a_begin a_motor a_change a_startFrame a_changeFrame a_lostAt a_blackAt a_slips a_leftArc a_died a_arcs m_bestSum m_nearest m_nearestTown a_there a_backAt a_sorted a_parts m_seed1 m_darkNow), (cAI g a_motor 8 d_motor), (cAI g a_change 8 d_change)] [(cAI g a_r 311 d_r), (cAI g a_leftArc 8 uf_6), (cAI g a_died 8 fa_130), (cAI g a_arcs 2 uf_4)] [4, 5, 6] [0, 1, 2, 3] (m_needsOf l g h0 u_9 m_thrown a_tape m_taped m_size m_at m_end m_token m_whole m_nameSize m_fault m_place m_trouble a_letters m_failed m_hasHouse a_r a_fresh a_st a_undone a_kept m_undos m_images a_from a_begin a_motor a_change a_startFrame a_changeFrame a_lostAt a_blackAt a_slips a_leftArc a_died a_arcs m_bestSum m_nearest m_nearestTown a_there a_backAt a_sorted a_parts m_seed1 m_darkNow d_motor d_change (iv_w iv_118 (by decide) (by decide))) dX11_burn_151 mw1022 mw1023 mw1024 mw5 mw1025 rfl 11 rfl rfl 0 _ rfl yk_yX11_needsOf_1 rfl (Nat.le_of_ble_eq_true rfl) (Nat.le_of_ble_eq_true rfl) (Nat.le_of_ble_eq_true rfl) (Nat.le_of_ble_eq_true rfl) (Nat.le_of_ble_eq_true rfl) rfl rfl (by decide) rfl (by decide) (by decide) ?_
            rintro r_132 w rfl
            refine k_ws [(cAI g a_r 311 d_r), (cAI g a_leftArc 8 uf_6), (cAI g a_died 8 fa_130), (cAI g a_arcs 2 uf_4), (cO11_i1r1i10r1i2r5i2r12i3r4i2 h0 m_thrown a_tape m_taped m_size m_at m_end m_token m_whole m_nameSize m_fault m_place m_trouble a_letters m_failed m_hasHouse a_r a_fresh a_st a_undone a_kept m_undos m_images a_from a_begin a_motor a_change a_startFrame a_changeFrame a_lostAt a_blackAt a_slips a_leftArc a_died a_arcs m_bestSum m_nearest m_nearestTown a_there a_backAt a_sorted a_parts m_seed1 m_darkNow), (cAI g a_motor 8 d_motor), (cAI g a_change 8 d_change)] rfl ?_
            refine k_isub X dX11_burn_154 ?_
            refine k_nm (fun z_133 ez_133 => ?_)
            refine k_iast [(cAI g a_r 311 d_r), (cAI g a_leftArc 8 uf_6), (cAI g a_died 8 fa_130), (cAI g a_arcs 2 (upd uf_4 (z_22 : Int32).toNatClampNeg z_133)), (cO11_i1r1i10r1i2r5i2r12i3r4i2 h0 m_thrown a_tape m_taped m_size m_at m_end m_token m_whole m_nameSize m_fault m_place m_trouble a_letters m_failed m_hasHouse a_r a_fresh a_st a_undone a_kept m_undos m_images a_from a_begin a_motor a_change a_startFrame a_changeFrame a_lostAt a_blackAt a_slips a_leftArc a_died a_arcs m_bestSum m_nearest m_nearestTown a_there a_backAt a_sorted a_parts m_seed1 m_darkNow), (cAI g a_motor 8 d_motor), (cAI g a_change 8 d_change)] X dX11_burn_155 3 rfl (iv_in iv_23 (by decide) (by decide)) rfl ?_
            refine (fun hg : ∀ fa_135 : Nat → Int32, Wk p l e _ s m args below meth c _ A g _ _ _ [(cAI g a_r 311 d_r), (cAI g a_leftArc 8 uf_6), (cAI g a_died 8 fa_130), (cAI g a_arcs 2 fa_135), (cO11_i1r1i10r1i2r5i2r12i3r4i2 h0 m_thrown a_tape m_taped m_size m_at m_end m_token m_whole m_nameSize m_fault m_place m_trouble a_letters m_failed m_hasHouse a_r a_fresh a_st a_undone a_kept m_undos m_images a_from a_begin a_motor a_change a_startFrame a_changeFrame a_lostAt a_blackAt a_slips a_leftArc a_died a_arcs m_bestSum m_nearest m_nearestTown a_there a_backAt a_sorted a_parts m_seed1 m_darkNow), (cAI g a_motor 8 d_motor), (cAI g a_change 8 d_change)] _ _ _ => hg _) (fun fa_135 => ?_)
            refine k_aload_n X dX11_burn_156 4 rfl ?_
            refine k_get (ci := 11) X inlX11 rfl 31 (by decide) dX11_burn_157 mw184 4 rfl rfl ?_
            refine k_iload_n X dX11_burn_160 2 rfl ?_
            refine k_aload_n X dX11_burn_161 4 rfl ?_
            refine k_get (ci := 11) X inlX11 rfl 33 (by decide) dX11_burn_162 mw186 4 rfl rfl ?_
            refine k_iload X dX11_burn_165 1 rfl ?_
            refine k_iald X dX11_burn_167 3 rfl (iv_in iv_23 (by decide) (by decide)) ?_
            refine k_nm (fun z_136 ez_136 => ?_)
            refine k_iast [(cAI g a_r 311 d_r), (cAI g a_leftArc 8 (upd uf_6 (u_9 : Int32).toNatClampNeg z_136)), (cAI g a_died 8 fa_130), (cAI g a_arcs 2 fa_135), (cO11_i1r1i10r1i2r5i2r12i3r4i2 h0 m_thrown a_tape m_taped m_size m_at m_end m_token m_whole m_nameSize m_fault m_place m_trouble a_letters m_failed m_hasHouse a_r a_fresh a_st a_undone a_kept m_undos m_images a_from a_begin a_motor a_change a_startFrame a_changeFrame a_lostAt a_blackAt a_slips a_leftArc a_died a_arcs m_bestSum m_nearest m_nearestTown a_there a_backAt a_sorted a_parts m_seed1 m_darkNow), (cAI g a_motor 8 d_motor), (cAI g a_change 8 d_change)] X dX11_burn_168 1 rfl (iv_in iv_118 (by decide) (by decide)) rfl ?_
            refine (fun hg : ∀ fa_137 : Nat → Int32, Wk p l e _ s m args below meth c _ A g _ _ _ [(cAI g a_r 311 d_r), (cAI g a_leftArc 8 fa_137), (cAI g a_died 8 fa_130), (cAI g a_arcs 2 fa_135), (cO11_i1r1i10r1i2r5i2r12i3r4i2 h0 m_thrown a_tape m_taped m_size m_at m_end m_token m_whole m_nameSize m_fault m_place m_trouble a_letters m_failed m_hasHouse a_r a_fresh a_st a_undone a_kept m_undos m_images a_from a_begin a_motor a_change a_startFrame a_changeFrame a_lostAt a_blackAt a_slips a_leftArc a_died a_arcs m_bestSum m_nearest m_nearestTown a_there a_backAt a_sorted a_parts m_seed1 m_darkNow), (cAI g a_motor 8 d_motor), (cAI g a_change 8 d_change)] _ _ _ => hg _) (fun fa_137 => ?_)
            refine k_iload_n X dX11_burn_169 3 rfl ?_
            refine k_if_eq 182 X dX11_burn_170 (by decide) (fun h_138 => ?_) (fun h_138 => ?_)
            · skip
              have iv_139 : IV u_7 0 0 := iv_meet hv_8 (iv_e h_138 (show IV 0 0 0 from (by decide))) (by decide) (by decide)
              refine k_iconst (v := 0) X dX11_burn_182 (by decide) ?_
              refine k_istore_n [(2, .int 0), (5, .int 0), (4, .int z_22), (3, .int u_9), (0, .ref h0), (1, .int p0)] X dX11_burn_183 (by decide) rfl ?_
              obtain ⟨z_140, ez_140⟩ : ∃ y : Int32, u_9 + Int32.ofInt 1 = y := ⟨_, rfl⟩
              refine k_iinc z_140 [(3, .int z_140), (2, .int 0), (5, .int 0), (4, .int z_22), (0, .ref h0), (1, .int p0)] 3 X dX11_burn_184 rfl ez_140 (by decide) rfl ?_
              have i_141 : z_140.toInt = u_9.toInt + 1 := in_inc ez_140 (by decide) iv_118 (by decide) (by decide)
              have iv_142 : IV z_140 3 8 := iz1 i_141 iv_118 (by decide) (by decide)
              refine k_goto 28 X dX11_burn_187 (by decide) ?_
              refine k_lv [(3, .int z_140), (2, .int 0), (0, .ref h0), (1, .int p0)] [0, 1, 4, 5] rfl ?_
              refine k_sub [(cO11_i1r1i10r1i2r5i2r12i3r4i2 h0 m_thrown a_tape m_taped m_size m_at m_end m_token m_whole m_nameSize m_fault m_place m_trouble a_letters m_failed m_hasHouse a_r a_fresh a_st a_undone a_kept m_undos m_images a_from a_begin a_motor a_change a_startFrame a_changeFrame a_lostAt a_blackAt a_slips a_leftArc a_died a_arcs m_bestSum m_nearest m_nearestTown a_there a_backAt a_sorted a_parts m_seed1 m_darkNow), (cAI g a_r 311 d_r), (cAI g a_motor 8 d_motor), (cAI g a_change 8 d_change), (cAI g a_leftArc 8 fa_137), (cAI g a_died 8 fa_130), (cAI g a_arcs 2 fa_135)] [4, 0, 5, 6, 1, 2, 3] rfl (by decide) rfl ?_
              exact ih_13 _ (by omega) fa_135 fa_130 fa_137 0 z_140 rfl (iv_w (show IV 0 0 0 from (by decide)) (by decide) (by decide)) (iv_w iv_142 (by decide) (by decide))
            · skip
              have iv_143 : IV u_7 1 1 := iv_neL h_138 hv_8 (show IV 0 0 0 from (by decide)) (by decide)
              refine k_iload X dX11_burn_173 0 rfl ?_
              refine k_if_ne 182 X dX11_burn_175 (by decide) (fun h_144 => absurd h_144 (by decide)) (fun _ => ?_)
              refine k_iconst (v := 1) X dX11_burn_178 (by decide) ?_
              refine k_goto 183 X dX11_burn_179 (by decide) ?_
              refine k_istore_n [(2, .int 1), (5, .int 0), (4, .int z_22), (3, .int u_9), (0, .ref h0), (1, .int p0)] X dX11_burn_183 (by decide) rfl ?_
              obtain ⟨z_145, ez_145⟩ : ∃ y : Int32, u_9 + Int32.ofInt 1 = y := ⟨_, rfl⟩
              refine k_iinc z_145 [(3, .int z_145), (2, .int 1), (5, .int 0), (4, .int z_22), (0, .ref h0), (1, .int p0)] 3 X dX11_burn_184 rfl ez_145 (by decide) rfl ?_
              have i_146 : z_145.toInt = u_9.toInt + 1 := in_inc ez_145 (by decide) iv_118 (by decide) (by decide)
              have iv_147 : IV z_145 3 8 := iz1 i_146 iv_118 (by decide) (by decide)
              refine k_goto 28 X dX11_burn_187 (by decide) ?_
              refine k_lv [(3, .int z_145), (2, .int 1), (0, .ref h0), (1, .int p0)] [0, 1, 4, 5] rfl ?_
              refine k_sub [(cO11_i1r1i10r1i2r5i2r12i3r4i2 h0 m_thrown a_tape m_taped m_size m_at m_end m_token m_whole m_nameSize m_fault m_place m_trouble a_letters m_failed m_hasHouse a_r a_fresh a_st a_undone a_kept m_undos m_images a_from a_begin a_motor a_change a_startFrame a_changeFrame a_lostAt a_blackAt a_slips a_leftArc a_died a_arcs m_bestSum m_nearest m_nearestTown a_there a_backAt a_sorted a_parts m_seed1 m_darkNow), (cAI g a_r 311 d_r), (cAI g a_motor 8 d_motor), (cAI g a_change 8 d_change), (cAI g a_leftArc 8 fa_137), (cAI g a_died 8 fa_130), (cAI g a_arcs 2 fa_135)] [4, 0, 5, 6, 1, 2, 3] rfl (by decide) rfl ?_
              exact ih_13 _ (by omega) fa_135 fa_130 fa_137 1 z_145 rfl (iv_w (show IV 1 1 1 from (by decide)) (by decide) (by decide)) (iv_w iv_147 (by decide) (by decide))
          · skip
            have j_148 : z_125.toInt < r_126.toInt := iv_nle h_127
            have iv_149 : IV z_125 (-2147483648) 2147483646 := iv_ltL (iv_nle h_127) (iv_any z_125) (iv_any r_126) (by decide)
            have iv_150 : IV r_126 (-2147483647) 2147483647 := iv_ltR (iv_nle h_127) (iv_any z_125) (iv_any r_126) (by decide)
            refine k_iconst (v := 1) X dX11_burn_99 (by decide) ?_
            refine k_goto 104 X dX11_burn_100 (by decide) ?_
            refine k_istore [(5, .int 1), (4, .int z_22), (3, .int u_9), (2, .int u_7), (0, .ref h0), (1, .int p0)] X dX11_burn_104 (by decide) rfl ?_
            refine k_aload_n X dX11_burn_106 4 rfl ?_
            refine k_get (ci := 11) X inlX11 rfl 32 (by decide) dX11_burn_107 mw185 4 rfl rfl ?_
            refine k_iload_n X dX11_burn_110 2 rfl ?_
            refine k_iload X dX11_burn_111 0 rfl ?_
            refine k_if_eq 120 X dX11_burn_113 (by decide) (fun h_151 => absurd h_151 (by decide)) (fun _ => ?_)
            refine k_iconst (v := 1) X dX11_burn_116 (by decide) ?_
            refine k_goto 121 X dX11_burn_117 (by decide) ?_
            refine k_iast [(cAI g a_r 311 d_r), (cAI g a_leftArc 8 uf_6), (cAI g a_died 8 (upd uf_5 (u_9 : Int32).toNatClampNeg 1)), (cAI g a_arcs 2 uf_4), (cO11_i1r1i10r1i2r5i2r12i3r4i2 h0 m_thrown a_tape m_taped m_size m_at m_end m_token m_whole m_nameSize m_fault m_place m_trouble a_letters m_failed m_hasHouse a_r a_fresh a_st a_undone a_kept m_undos m_images a_from a_begin a_motor a_change a_startFrame a_changeFrame a_lostAt a_blackAt a_slips a_leftArc a_died a_arcs m_bestSum m_nearest m_nearestTown a_there a_backAt a_sorted a_parts m_seed1 m_darkNow), (cAI g a_motor 8 d_motor), (cAI g a_change 8 d_change)] X dX11_burn_121 2 rfl (iv_in iv_118 (by decide) (by decide)) rfl ?_
            refine (fun hg : ∀ fa_152 : Nat → Int32, Wk p l e _ s m args below meth c _ A g _ _ _ [(cAI g a_r 311 d_r), (cAI g a_leftArc 8 uf_6), (cAI g a_died 8 fa_152), (cAI g a_arcs 2 uf_4), (cO11_i1r1i10r1i2r5i2r12i3r4i2 h0 m_thrown a_tape m_taped m_size m_at m_end m_token m_whole m_nameSize m_fault m_place m_trouble a_letters m_failed m_hasHouse a_r a_fresh a_st a_undone a_kept m_undos m_images a_from a_begin a_motor a_change a_startFrame a_changeFrame a_lostAt a_blackAt a_slips a_leftArc a_died a_arcs m_bestSum m_nearest m_nearestTown a_there a_backAt a_sorted a_parts m_seed1 m_darkNow), (cAI g a_motor 8 d_motor), (cAI g a_change 8 d_change)] _ _ _ => hg _) (fun fa_152 => ?_)
            refine k_aload_n X dX11_burn_122 4 rfl ?_
            refine k_get (ci := 11) X inlX11 rfl 33 (by decide) dX11_burn_123 mw186 4 rfl rfl ?_
            refine k_iload X dX11_burn_126 1 rfl ?_
            refine k_iload X dX11_burn_128 0 rfl ?_
            refine k_if_eq 142 X dX11_burn_130 (by decide) (fun h_153 => absurd h_153 (by decide)) (fun _ => ?_)
            refine k_aload_n X dX11_burn_133 4 rfl ?_
            refine k_get (ci := 11) X inlX11 rfl 15 (by decide) dX11_burn_134 mw170 4 rfl rfl ?_
            refine k_iconst (v := 3) X dX11_burn_137 (by decide) ?_
            refine k_iald X dX11_burn_138 0 rfl (by unfold vp_in; decide) ?_
            refine k_to z_1 ez_1.symm ?_
            refine k_goto 155 X dX11_burn_139 (by decide) ?_
            refine k_iast [(cAI g a_r 311 d_r), (cAI g a_leftArc 8 uf_6), (cAI g a_died 8 fa_152), (cAI g a_arcs 2 (upd uf_4 (z_22 : Int32).toNatClampNeg z_1)), (cO11_i1r1i10r1i2r5i2r12i3r4i2 h0 m_thrown a_tape m_taped m_size m_at m_end m_token m_whole m_nameSize m_fault m_place m_trouble a_letters m_failed m_hasHouse a_r a_fresh a_st a_undone a_kept m_undos m_images a_from a_begin a_motor a_change a_startFrame a_changeFrame a_lostAt a_blackAt a_slips a_leftArc a_died a_arcs m_bestSum m_nearest m_nearestTown a_there a_backAt a_sorted a_parts m_seed1 m_darkNow), (cAI g a_motor 8 d_motor), (cAI g a_change 8 d_change)] X dX11_burn_155 3 rfl (iv_in iv_23 (by decide) (by decide)) rfl ?_
            refine (fun hg : ∀ fa_154 : Nat → Int32, Wk p l e _ s m args below meth c _ A g _ _ _ [(cAI g a_r 311 d_r), (cAI g a_leftArc 8 uf_6), (cAI g a_died 8 fa_152), (cAI g a_arcs 2 fa_154), (cO11_i1r1i10r1i2r5i2r12i3r4i2 h0 m_thrown a_tape m_taped m_size m_at m_end m_token m_whole m_nameSize m_fault m_place m_trouble a_letters m_failed m_hasHouse a_r a_fresh a_st a_undone a_kept m_undos m_images a_from a_begin a_motor a_change a_startFrame a_changeFrame a_lostAt a_blackAt a_slips a_leftArc a_died a_arcs m_bestSum m_nearest m_nearestTown a_there a_backAt a_sorted a_parts m_seed1 m_darkNow), (cAI g a_motor 8 d_motor), (cAI g a_change 8 d_change)] _ _ _ => hg _) (fun fa_154 => ?_)
            refine k_aload_n X dX11_burn_156 4 rfl ?_
            refine k_get (ci := 11) X inlX11 rfl 31 (by decide) dX11_burn_157 mw184 4 rfl rfl ?_
            refine k_iload_n X dX11_burn_160 2 rfl ?_
            refine k_aload_n X dX11_burn_161 4 rfl ?_
            refine k_get (ci := 11) X inlX11 rfl 33 (by decide) dX11_burn_162 mw186 4 rfl rfl ?_
            refine k_iload X dX11_burn_165 1 rfl ?_
            refine k_iald X dX11_burn_167 3 rfl (iv_in iv_23 (by decide) (by decide)) ?_
            refine k_nm (fun z_155 ez_155 => ?_)
            refine k_iast [(cAI g a_r 311 d_r), (cAI g a_leftArc 8 (upd uf_6 (u_9 : Int32).toNatClampNeg z_155)), (cAI g a_died 8 fa_152), (cAI g a_arcs 2 fa_154), (cO11_i1r1i10r1i2r5i2r12i3r4i2 h0 m_thrown a_tape m_taped m_size m_at m_end m_token m_whole m_nameSize m_fault m_place m_trouble a_letters m_failed m_hasHouse a_r a_fresh a_st a_undone a_kept m_undos m_images a_from a_begin a_motor a_change a_startFrame a_changeFrame a_lostAt a_blackAt a_slips a_leftArc a_died a_arcs m_bestSum m_nearest m_nearestTown a_there a_backAt a_sorted a_parts m_seed1 m_darkNow), (cAI g a_motor 8 d_motor), (cAI g a_change 8 d_change)] X dX11_burn_168 1 rfl (iv_in iv_118 (by decide) (by decide)) rfl ?_
            refine (fun hg : ∀ fa_156 : Nat → Int32, Wk p l e _ s m args below meth c _ A g _ _ _ [(cAI g a_r 311 d_r), (cAI g a_leftArc 8 fa_156), (cAI g a_died 8 fa_152), (cAI g a_arcs 2 fa_154), (cO11_i1r1i10r1i2r5i2r12i3r4i2 h0 m_thrown a_tape m_taped m_size m_at m_end m_token m_whole m_nameSize m_fault m_place m_trouble a_letters m_failed m_hasHouse a_r a_fresh a_st a_undone a_kept m_undos m_images a_from a_begin a_motor a_change a_startFrame a_changeFrame a_lostAt a_blackAt a_slips a_leftArc a_died a_arcs m_bestSum m_nearest m_nearestTown a_there a_backAt a_sorted a_parts m_seed1 m_darkNow), (cAI g a_motor 8 d_motor), (cAI g a_change 8 d_change)] _ _ _ => hg _) (fun fa_156 => ?_)
            refine k_iload_n X dX11_burn_169 3 rfl ?_
            refine k_if_eq 182 X dX11_burn_170 (by decide) (fun h_157 => ?_) (fun h_157 => ?_)
            · skip
              have iv_158 : IV u_7 0 0 := iv_meet hv_8 (iv_e h_157 (show IV 0 0 0 from (by decide))) (by decide) (by decide)
              refine k_iconst (v := 0) X dX11_burn_182 (by decide) ?_
              refine k_istore_n [(2, .int 0), (5, .int 1), (4, .int z_22), (3, .int u_9), (0, .ref h0), (1, .int p0)] X dX11_burn_183 (by decide) rfl ?_
              obtain ⟨z_159, ez_159⟩ : ∃ y : Int32, u_9 + Int32.ofInt 1 = y := ⟨_, rfl⟩
              refine k_iinc z_159 [(3, .int z_159), (2, .int 0), (5, .int 1), (4, .int z_22), (0, .ref h0), (1, .int p0)] 3 X dX11_burn_184 rfl ez_159 (by decide) rfl ?_
              have i_160 : z_159.toInt = u_9.toInt + 1 := in_inc ez_159 (by decide) iv_118 (by decide) (by decide)
              have iv_161 : IV z_159 3 8 := iz1 i_160 iv_118 (by decide) (by decide)
              refine k_goto 28 X dX11_burn_187 (by decide) ?_
              refine k_lv [(3, .int z_159), (2, .int 0), (0, .ref h0), (1, .int p0)] [0, 1, 4, 5] rfl ?_
              refine k_sub [(cO11_i1r1i10r1i2r5i2r12i3r4i2 h0 m_thrown a_tape m_taped m_size m_at m_end m_token m_whole m_nameSize m_fault m_place m_trouble a_letters m_failed m_hasHouse a_r a_fresh a_st a_undone a_kept m_undos m_images a_from a_begin a_motor a_change a_startFrame a_changeFrame a_lostAt a_blackAt a_slips a_leftArc a_died a_arcs m_bestSum m_nearest m_nearestTown a_there a_backAt a_sorted a_parts m_seed1 m_darkNow), (cAI g a_r 311 d_r), (cAI g a_motor 8 d_motor), (cAI g a_change 8 d_change), (cAI g a_leftArc 8 fa_156), (cAI g a_died 8 fa_152), (cAI g a_arcs 2 fa_154)] [4, 0, 5, 6, 1, 2, 3] rfl (by decide) rfl ?_
              exact ih_13 _ (by omega) fa_154 fa_152 fa_156 0 z_159 rfl (iv_w (show IV 0 0 0 from (by decide)) (by decide) (by decide)) (iv_w iv_161 (by decide) (by decide))
            · skip
              have iv_162 : IV u_7 1 1 := iv_neL h_157 hv_8 (show IV 0 0 0 from (by decide)) (by decide)
              refine k_iload X dX11_burn_173 0 rfl ?_
              refine k_if_ne 182 X dX11_burn_175 (by decide) (fun _ => ?_) (fun h_163 => absurd h_163 (by decide))
              refine k_iconst (v := 0) X dX11_burn_182 (by decide) ?_
              refine k_istore_n [(2, .int 0), (5, .int 1), (4, .int z_22), (3, .int u_9), (0, .ref h0), (1, .int p0)] X dX11_burn_183 (by decide) rfl ?_
              obtain ⟨z_164, ez_164⟩ : ∃ y : Int32, u_9 + Int32.ofInt 1 = y := ⟨_, rfl⟩
              refine k_iinc z_164 [(3, .int z_164), (2, .int 0), (5, .int 1), (4, .int z_22), (0, .ref h0), (1, .int p0)] 3 X dX11_burn_184 rfl ez_164 (by decide) rfl ?_
              have i_165 : z_164.toInt = u_9.toInt + 1 := in_inc ez_164 (by decide) iv_118 (by decide) (by decide)
              have iv_166 : IV z_164 3 8 := iz1 i_165 iv_118 (by decide) (by decide)
              refine k_goto 28 X dX11_burn_187 (by decide) ?_
              refine k_lv [(3, .int z_164), (2, .int 0), (0, .ref h0), (1, .int p0)] [0, 1, 4, 5] rfl ?_
              refine k_sub [(cO11_i1r1i10r1i2r5i2r12i3r4i2 h0 m_thrown a_tape m_taped m_size m_at m_end m_token m_whole m_nameSize m_fault m_place m_trouble a_letters m_failed m_hasHouse a_r a_fresh a_st a_undone a_kept m_undos m_images a_from a_begin a_motor a_change a_startFrame a_changeFrame a_lostAt a_blackAt a_slips a_leftArc a_died a_arcs m_bestSum m_nearest m_nearestTown a_there a_backAt a_sorted a_parts m_seed1 m_darkNow), (cAI g a_r 311 d_r), (cAI g a_motor 8 d_motor), (cAI g a_change 8 d_change), (cAI g a_leftArc 8 fa_156), (cAI g a_died 8 fa_152), (cAI g a_arcs 2 fa_154)] [4, 0, 5, 6, 1, 2, 3] rfl (by decide) rfl ?_
              exact ih_13 _ (by omega) fa_154 fa_152 fa_156 0 z_164 rfl (iv_w (show IV 0 0 0 from (by decide)) (by decide) (by decide)) (iv_w iv_166 (by decide) (by decide))
        · skip
          have j_167 : z_120.toInt ≤ r_119.toInt := iv_nlt h_121
          refine k_aload_n X dX11_burn_71 3 rfl ?_
          refine k_get (ci := 11) X inlX11 rfl 33 (by decide) dX11_burn_72 mw186 4 rfl rfl ?_
          refine k_iload X dX11_burn_75 0 rfl ?_
          refine k_aload_n X dX11_burn_77 3 rfl ?_
          refine k_get (ci := 11) X inlX11 rfl 15 (by decide) dX11_burn_78 mw170 4 rfl rfl ?_
          refine k_iconst (v := 3) X dX11_burn_81 (by decide) ?_
          refine k_iald X dX11_burn_82 0 rfl (by unfold vp_in; decide) ?_
          refine k_to z_1 ez_1.symm ?_
          refine k_iast [(cAI g a_r 311 d_r), (cAI g a_leftArc 8 uf_6), (cAI g a_died 8 uf_5), (cAI g a_arcs 2 (upd uf_4 (z_22 : Int32).toNatClampNeg z_1)), (cO11_i1r1i10r1i2r5i2r12i3r4i2 h0 m_thrown a_tape m_taped m_size m_at m_end m_token m_whole m_nameSize m_fault m_place m_trouble a_letters m_failed m_hasHouse a_r a_fresh a_st a_undone a_kept m_undos m_images a_from a_begin a_motor a_change a_startFrame a_changeFrame a_lostAt a_blackAt a_slips a_leftArc a_died a_arcs m_bestSum m_nearest m_nearestTown a_there a_backAt a_sorted a_parts m_seed1 m_darkNow), (cAI g a_motor 8 d_motor), (cAI g a_change 8 d_change)] X dX11_burn_83 3 rfl (iv_in iv_23 (by decide) (by decide)) rfl ?_
          refine (fun hg : ∀ fa_168 : Nat → Int32, Wk p l e _ s m args below meth c _ A g _ _ _ [(cAI g a_r 311 d_r), (cAI g a_leftArc 8 uf_6), (cAI g a_died 8 uf_5), (cAI g a_arcs 2 fa_168), (cO11_i1r1i10r1i2r5i2r12i3r4i2 h0 m_thrown a_tape m_taped m_size m_at m_end m_token m_whole m_nameSize m_fault m_place m_trouble a_letters m_failed m_hasHouse a_r a_fresh a_st a_undone a_kept m_undos m_images a_from a_begin a_motor a_change a_startFrame a_changeFrame a_lostAt a_blackAt a_slips a_leftArc a_died a_arcs m_bestSum m_nearest m_nearestTown a_there a_backAt a_sorted a_parts m_seed1 m_darkNow), (cAI g a_motor 8 d_motor), (cAI g a_change 8 d_change)] _ _ _ => hg _) (fun fa_168 => ?_)
          refine k_aload_n X dX11_burn_84 3 rfl ?_
          refine k_get (ci := 11) X inlX11 rfl 33 (by decide) dX11_burn_85 mw186 4 rfl rfl ?_
          refine k_iload X dX11_burn_88 0 rfl ?_
          refine k_iald X dX11_burn_90 3 rfl (iv_in iv_23 (by decide) (by decide)) ?_
          refine k_nm (fun z_169 ez_169 => ?_)
          refine k_aload_n X dX11_burn_91 3 rfl ?_
          refine k_iload_n X dX11_burn_92 1 rfl ?_
          refine k_callVI (n := 1) (As := [.int u_9]) (st := [.int z_169]) X [(cO11_i1r1i10r1i2r5i2r12i3r4i2 h0 m_thrown a_tape m_taped m_size m_at m_end m_token m_whole m_nameSize m_fault m_place m_trouble a_letters m_failed m_hasHouse a_r a_fresh a_st a_undone a_kept m_undos m_images a_from a_begin a_motor a_change a_startFrame a_changeFrame a_lostAt a_blackAt a_slips a_leftArc a_died a_arcs m_bestSum m_nearest m_nearestTown a_there a_backAt a_sorted a_parts m_seed1 m_darkNow), (cAI g a_motor 8 d_motor), (cAI g a_change 8 d_change)] [(cAI g a_r 311 d_r), (cAI g a_leftArc 8 uf_6), (cAI g a_died 8 uf_5), (cAI g a_arcs 2 fa_168)] [4, 5, 6] [0, 1, 2, 3] (m_needsOf l g h0 u_9 m_thrown a_tape m_taped m_size m_at m_end m_token m_whole m_nameSize m_fault m_place m_trouble a_letters m_failed m_hasHouse a_r a_fresh a_st a_undone a_kept m_undos m_images a_from a_begin a_motor a_change a_startFrame a_changeFrame a_lostAt a_blackAt a_slips a_leftArc a_died a_arcs m_bestSum m_nearest m_nearestTown a_there a_backAt a_sorted a_parts m_seed1 m_darkNow d_motor d_change (iv_w iv_118 (by decide) (by decide))) dX11_burn_93 mw1022 mw1023 mw1024 mw5 mw1025 rfl 11 rfl rfl 0 _ rfl yk_yX11_needsOf_1 rfl (Nat.le_of_ble_eq_true rfl) (Nat.le_of_ble_eq_true rfl) (Nat.le_of_ble_eq_true rfl) (Nat.le_of_ble_eq_true rfl) (Nat.le_of_ble_eq_true rfl) rfl rfl (by decide) rfl (by decide) (by decide) ?_
          rintro r_170 w rfl
          refine k_ws [(cAI g a_r 311 d_r), (cAI g a_leftArc 8 uf_6), (cAI g a_died 8 uf_5), (cAI g a_arcs 2 fa_168), (cO11_i1r1i10r1i2r5i2r12i3r4i2 h0 m_thrown a_tape m_taped m_size m_at m_end m_token m_whole m_nameSize m_fault m_place m_trouble a_letters m_failed m_hasHouse a_r a_fresh a_st a_undone a_kept m_undos m_images a_from a_begin a_motor a_change a_startFrame a_changeFrame a_lostAt a_blackAt a_slips a_leftArc a_died a_arcs m_bestSum m_nearest m_nearestTown a_there a_backAt a_sorted a_parts m_seed1 m_darkNow), (cAI g a_motor 8 d_motor), (cAI g a_change 8 d_change)] rfl ?_
          refine k_ic_ge 103 X dX11_burn_96 (by decide) (fun h_171 => ?_) (fun h_171 => ?_)
          · skip
            have j_172 : r_170.toInt ≤ z_169.toInt := iv_le h_171
            refine k_iconst (v := 0) X dX11_burn_103 (by decide) ?_
            refine k_istore [(5, .int 0), (4, .int z_22), (3, .int u_9), (2, .int u_7), (0, .ref h0), (1, .int p0)] X dX11_burn_104 (by decide) rfl ?_
            refine k_aload_n X dX11_burn_106 4 rfl ?_
            refine k_get (ci := 11) X inlX11 rfl 32 (by decide) dX11_burn_107 mw185 4 rfl rfl ?_
            refine k_iload_n X dX11_burn_110 2 rfl ?_
            refine k_iload X dX11_burn_111 0 rfl ?_
            refine k_if_eq 120 X dX11_burn_113 (by decide) (fun _ => ?_) (fun h_173 => absurd (by decide) h_173)
            refine k_iconst (v := 0) X dX11_burn_120 (by decide) ?_
            refine k_iast [(cAI g a_r 311 d_r), (cAI g a_leftArc 8 uf_6), (cAI g a_died 8 (upd uf_5 (u_9 : Int32).toNatClampNeg 0)), (cAI g a_arcs 2 fa_168), (cO11_i1r1i10r1i2r5i2r12i3r4i2 h0 m_thrown a_tape m_taped m_size m_at m_end m_token m_whole m_nameSize m_fault m_place m_trouble a_letters m_failed m_hasHouse a_r a_fresh a_st a_undone a_kept m_undos m_images a_from a_begin a_motor a_change a_startFrame a_changeFrame a_lostAt a_blackAt a_slips a_leftArc a_died a_arcs m_bestSum m_nearest m_nearestTown a_there a_backAt a_sorted a_parts m_seed1 m_darkNow), (cAI g a_motor 8 d_motor), (cAI g a_change 8 d_change)] X dX11_burn_121 2 rfl (iv_in iv_118 (by decide) (by decide)) rfl ?_
            refine (fun hg : ∀ fa_174 : Nat → Int32, Wk p l e _ s m args below meth c _ A g _ _ _ [(cAI g a_r 311 d_r), (cAI g a_leftArc 8 uf_6), (cAI g a_died 8 fa_174), (cAI g a_arcs 2 fa_168), (cO11_i1r1i10r1i2r5i2r12i3r4i2 h0 m_thrown a_tape m_taped m_size m_at m_end m_token m_whole m_nameSize m_fault m_place m_trouble a_letters m_failed m_hasHouse a_r a_fresh a_st a_undone a_kept m_undos m_images a_from a_begin a_motor a_change a_startFrame a_changeFrame a_lostAt a_blackAt a_slips a_leftArc a_died a_arcs m_bestSum m_nearest m_nearestTown a_there a_backAt a_sorted a_parts m_seed1 m_darkNow), (cAI g a_motor 8 d_motor), (cAI g a_change 8 d_change)] _ _ _ => hg _) (fun fa_174 => ?_)
            refine k_aload_n X dX11_burn_122 4 rfl ?_
            refine k_get (ci := 11) X inlX11 rfl 33 (by decide) dX11_burn_123 mw186 4 rfl rfl ?_
            refine k_iload X dX11_burn_126 1 rfl ?_
            refine k_iload X dX11_burn_128 0 rfl ?_
            refine k_if_eq 142 X dX11_burn_130 (by decide) (fun _ => ?_) (fun h_175 => absurd (by decide) h_175)
            refine k_aload_n X dX11_burn_142 4 rfl ?_
            refine k_get (ci := 11) X inlX11 rfl 33 (by decide) dX11_burn_143 mw186 4 rfl rfl ?_
            refine k_iload X dX11_burn_146 1 rfl ?_
            refine k_iald X dX11_burn_148 3 rfl (iv_in iv_23 (by decide) (by decide)) ?_
            refine k_to z_169 ez_169.symm ?_
            refine k_aload_n X dX11_burn_149 4 rfl ?_
            refine k_iload_n X dX11_burn_150 2 rfl ?_
            refine k_callVI (n := 1) (As := [.int u_9]) (st := [.int z_169, .int z_22, .ref a_arcs]) X [(cO11_i1r1i10r1i2r5i2r12i3r4i2 h0 m_thrown a_tape m_taped m_size m_at m_end m_token m_whole m_nameSize m_fault m_place m_trouble a_letters m_failed m_hasHouse a_r a_fresh a_st a_undone a_kept m_undos m_images a_from a_begin a_motor a_change a_startFrame a_changeFrame a_lostAt a_blackAt a_slips a_leftArc a_died a_arcs m_bestSum m_nearest m_nearestTown a_there a_backAt a_sorted a_parts m_seed1 m_darkNow), (cAI g a_motor 8 d_motor), (cAI g a_change 8 d_change)] [(cAI g a_r 311 d_r), (cAI g a_leftArc 8 uf_6), (cAI g a_died 8 fa_174), (cAI g a_arcs 2 fa_168)] [4, 5, 6] [0, 1, 2, 3] (m_needsOf l g h0 u_9 m_thrown a_tape m_taped m_size m_at m_end m_token m_whole m_nameSize m_fault m_place m_trouble a_letters m_failed m_hasHouse a_r a_fresh a_st a_undone a_kept m_undos m_images a_from a_begin a_motor a_change a_startFrame a_changeFrame a_lostAt a_blackAt a_slips a_leftArc a_died a_arcs m_bestSum m_nearest m_nearestTown a_there a_backAt a_sorted a_parts m_seed1 m_darkNow d_motor d_change (iv_w iv_118 (by decide) (by decide))) dX11_burn_151 mw1022 mw1023 mw1024 mw5 mw1025 rfl 11 rfl rfl 0 _ rfl yk_yX11_needsOf_1 rfl (Nat.le_of_ble_eq_true rfl) (Nat.le_of_ble_eq_true rfl) (Nat.le_of_ble_eq_true rfl) (Nat.le_of_ble_eq_true rfl) (Nat.le_of_ble_eq_true rfl) rfl rfl (by decide) rfl (by decide) (by decide) ?_
            rintro r_176 w rfl
            refine k_ws [(cAI g a_r 311 d_r), (cAI g a_leftArc 8 uf_6), (cAI g a_died 8 fa_174), (cAI g a_arcs 2 fa_168), (cO11_i1r1i10r1i2r5i2r12i3r4i2 h0 m_thrown a_tape m_taped m_size m_at m_end m_token m_whole m_nameSize m_fault m_place m_trouble a_letters m_failed m_hasHouse a_r a_fresh a_st a_undone a_kept m_undos m_images a_from a_begin a_motor a_change a_startFrame a_changeFrame a_lostAt a_blackAt a_slips a_leftArc a_died a_arcs m_bestSum m_nearest m_nearestTown a_there a_backAt a_sorted a_parts m_seed1 m_darkNow), (cAI g a_motor 8 d_motor), (cAI g a_change 8 d_change)] rfl ?_
            refine k_isub X dX11_burn_154 ?_
            refine k_nm (fun z_177 ez_177 => ?_)
            refine k_iast [(cAI g a_r 311 d_r), (cAI g a_leftArc 8 uf_6), (cAI g a_died 8 fa_174), (cAI g a_arcs 2 (upd fa_168 (z_22 : Int32).toNatClampNeg z_177)), (cO11_i1r1i10r1i2r5i2r12i3r4i2 h0 m_thrown a_tape m_taped m_size m_at m_end m_token m_whole m_nameSize m_fault m_place m_trouble a_letters m_failed m_hasHouse a_r a_fresh a_st a_undone a_kept m_undos m_images a_from a_begin a_motor a_change a_startFrame a_changeFrame a_lostAt a_blackAt a_slips a_leftArc a_died a_arcs m_bestSum m_nearest m_nearestTown a_there a_backAt a_sorted a_parts m_seed1 m_darkNow), (cAI g a_motor 8 d_motor), (cAI g a_change 8 d_change)] X dX11_burn_155 3 rfl (iv_in iv_23 (by decide) (by decide)) rfl ?_
            refine (fun hg : ∀ fa_179 : Nat → Int32, Wk p l e _ s m args below meth c _ A g _ _ _ [(cAI g a_r 311 d_r), (cAI g a_leftArc 8 uf_6), (cAI g a_died 8 fa_174), (cAI g a_arcs 2 fa_179), (cO11_i1r1i10r1i2r5i2r12i3r4i2 h0 m_thrown a_tape m_taped m_size m_at m_end m_token m_whole m_nameSize m_fault m_place m_trouble a_letters m_failed m_hasHouse a_r a_fresh a_st a_undone a_kept m_undos m_images a_from a_begin a_motor a_change a_startFrame a_changeFrame a_lostAt a_blackAt a_slips a_leftArc a_died a_arcs m_bestSum m_nearest m_nearestTown a_there a_backAt a_sorted a_parts m_seed1 m_darkNow), (cAI g a_motor 8 d_motor), (cAI g a_change 8 d_change)] _ _ _ => hg _) (fun fa_179 => ?_)
            refine k_aload_n X dX11_burn_156 4 rfl ?_
            refine k_get (ci := 11) X inlX11 rfl 31 (by decide) dX11_burn_157 mw184 4 rfl rfl ?_
            refine k_iload_n X dX11_burn_160 2 rfl ?_
            refine k_aload_n X dX11_burn_161 4 rfl ?_
            refine k_get (ci := 11) X inlX11 rfl 33 (by decide) dX11_burn_162 mw186 4 rfl rfl ?_
            refine k_iload X dX11_burn_165 1 rfl ?_
            refine k_iald X dX11_burn_167 3 rfl (iv_in iv_23 (by decide) (by decide)) ?_
            refine k_nm (fun z_180 ez_180 => ?_)
            refine k_iast [(cAI g a_r 311 d_r), (cAI g a_leftArc 8 (upd uf_6 (u_9 : Int32).toNatClampNeg z_180)), (cAI g a_died 8 fa_174), (cAI g a_arcs 2 fa_179), (cO11_i1r1i10r1i2r5i2r12i3r4i2 h0 m_thrown a_tape m_taped m_size m_at m_end m_token m_whole m_nameSize m_fault m_place m_trouble a_letters m_failed m_hasHouse a_r a_fresh a_st a_undone a_kept m_undos m_images a_from a_begin a_motor a_change a_startFrame a_changeFrame a_lostAt a_blackAt a_slips a_leftArc a_died a_arcs m_bestSum m_nearest m_nearestTown a_there a_backAt a_sorted a_parts m_seed1 m_darkNow), (cAI g a_motor 8 d_motor), (cAI g a_change 8 d_change)] X dX11_burn_168 1 rfl (iv_in iv_118 (by decide) (by decide)) rfl ?_
            refine (fun hg : ∀ fa_181 : Nat → Int32, Wk p l e _ s m args below meth c _ A g _ _ _ [(cAI g a_r 311 d_r), (cAI g a_leftArc 8 fa_181), (cAI g a_died 8 fa_174), (cAI g a_arcs 2 fa_179), (cO11_i1r1i10r1i2r5i2r12i3r4i2 h0 m_thrown a_tape m_taped m_size m_at m_end m_token m_whole m_nameSize m_fault m_place m_trouble a_letters m_failed m_hasHouse a_r a_fresh a_st a_undone a_kept m_undos m_images a_from a_begin a_motor a_change a_startFrame a_changeFrame a_lostAt a_blackAt a_slips a_leftArc a_died a_arcs m_bestSum m_nearest m_nearestTown a_there a_backAt a_sorted a_parts m_seed1 m_darkNow), (cAI g a_motor 8 d_motor), (cAI g a_change 8 d_change)] _ _ _ => hg _) (fun fa_181 => ?_)
            refine k_iload_n X dX11_burn_169 3 rfl ?_
            refine k_if_eq 182 X dX11_burn_170 (by decide) (fun h_182 => ?_) (fun h_182 => ?_)
            · skip
              have iv_183 : IV u_7 0 0 := iv_meet hv_8 (iv_e h_182 (show IV 0 0 0 from (by decide))) (by decide) (by decide)
              refine k_iconst (v := 0) X dX11_burn_182 (by decide) ?_
              refine k_istore_n [(2, .int 0), (5, .int 0), (4, .int z_22), (3, .int u_9), (0, .ref h0), (1, .int p0)] X dX11_burn_183 (by decide) rfl ?_
              obtain ⟨z_184, ez_184⟩ : ∃ y : Int32, u_9 + Int32.ofInt 1 = y := ⟨_, rfl⟩
              refine k_iinc z_184 [(3, .int z_184), (2, .int 0), (5, .int 0), (4, .int z_22), (0, .ref h0), (1, .int p0)] 3 X dX11_burn_184 rfl ez_184 (by decide) rfl ?_
              have i_185 : z_184.toInt = u_9.toInt + 1 := in_inc ez_184 (by decide) iv_118 (by decide) (by decide)
              have iv_186 : IV z_184 3 8 := iz1 i_185 iv_118 (by decide) (by decide)
              refine k_goto 28 X dX11_burn_187 (by decide) ?_
              refine k_lv [(3, .int z_184), (2, .int 0), (0, .ref h0), (1, .int p0)] [0, 1, 4, 5] rfl ?_
              refine k_sub [(cO11_i1r1i10r1i2r5i2r12i3r4i2 h0 m_thrown a_tape m_taped m_size m_at m_end m_token m_whole m_nameSize m_fault m_place m_trouble a_letters m_failed m_hasHouse a_r a_fresh a_st a_undone a_kept m_undos m_images a_from a_begin a_motor a_change a_startFrame a_changeFrame a_lostAt a_blackAt a_slips a_leftArc a_died a_arcs m_bestSum m_nearest m_nearestTown a_there a_backAt a_sorted a_parts m_seed1 m_darkNow), (cAI g a_r 311 d_r), (cAI g a_motor 8 d_motor), (cAI g a_change 8 d_change), (cAI g a_leftArc 8 fa_181), (cAI g a_died 8 fa_174), (cAI g a_arcs 2 fa_179)] [4, 0, 5, 6, 1, 2, 3] rfl (by decide) rfl ?_
              exact ih_13 _ (by omega) fa_179 fa_174 fa_181 0 z_184 rfl (iv_w (show IV 0 0 0 from (by decide)) (by decide) (by decide)) (iv_w iv_186 (by decide) (by decide))
            · skip
              have iv_187 : IV u_7 1 1 := iv_neL h_182 hv_8 (show IV 0 0 0 from (by decide)) (by decide)
              refine k_iload X dX11_burn_173 0 rfl ?_
              refine k_if_ne 182 X dX11_burn_175 (by decide) (fun h_188 => absurd h_188 (by decide)) (fun _ => ?_)
              refine k_iconst (v := 1) X dX11_burn_178 (by decide) ?_
              refine k_goto 183 X dX11_burn_179 (by decide) ?_
              refine k_istore_n [(2, .int 1), (5, .int 0), (4, .int z_22), (3, .int u_9), (0, .ref h0), (1, .int p0)] X dX11_burn_183 (by decide) rfl ?_
              obtain ⟨z_189, ez_189⟩ : ∃ y : Int32, u_9 + Int32.ofInt 1 = y := ⟨_, rfl⟩
              refine k_iinc z_189 [(3, .int z_189), (2, .int 1), (5, .int 0), (4, .int z_22), (0, .ref h0), (1, .int p0)] 3 X dX11_burn_184 rfl ez_189 (by decide) rfl ?_
              have i_190 : z_189.toInt = u_9.toInt + 1 := in_inc ez_189 (by decide) iv_118 (by decide) (by decide)
              have iv_191 : IV z_189 3 8 := iz1 i_190 iv_118 (by decide) (by decide)
              refine k_goto 28 X dX11_burn_187 (by decide) ?_
              refine k_lv [(3, .int z_189), (2, .int 1), (0, .ref h0), (1, .int p0)] [0, 1, 4, 5] rfl ?_
              refine k_sub [(cO11_i1r1i10r1i2r5i2r12i3r4i2 h0 m_thrown a_tape m_taped m_size m_at m_end m_token m_whole m_nameSize m_fault m_place m_trouble a_letters m_failed m_hasHouse a_r a_fresh a_st a_undone a_kept m_undos m_images a_from a_begin a_motor a_change a_startFrame a_changeFrame a_lostAt a_blackAt a_slips a_leftArc a_died a_arcs m_bestSum m_nearest m_nearestTown a_there a_backAt a_sorted a_parts m_seed1 m_darkNow), (cAI g a_r 311 d_r), (cAI g a_motor 8 d_motor), (cAI g a_change 8 d_change), (cAI g a_leftArc 8 fa_181), (cAI g a_died 8 fa_174), (cAI g a_arcs 2 fa_179)] [4, 0, 5, 6, 1, 2, 3] rfl (by decide) rfl ?_
              exact ih_13 _ (by omega) fa_179 fa_174 fa_181 1 z_189 rfl (iv_w (show IV 1 1 1 from (by decide)) (by decide) (by decide)) (iv_w iv_191 (by decide) (by decide))
          · skip
            have j_192 : z_169.toInt < r_170.toInt := iv_nle h_171
            have iv_193 : IV z_169 (-2147483648) 2147483646 := iv_ltL (iv_nle h_171) (iv_any z_169) (iv_any r_170) (by decide)
            have iv_194 : IV r_170 (-2147483647) 2147483647 := iv_ltR (iv_nle h_171) (iv_any z_169) (iv_any r_170) (by decide)
            refine k_iconst (v := 1) X dX11_burn_99 (by decide) ?_
            refine k_goto 104 X dX11_burn_100 (by decide) ?_
            refine k_istore [(5, .int 1), (4, .int z_22), (3, .int u_9), (2, .int u_7), (0, .ref h0), (1, .int p0)] X dX11_burn_104 (by decide) rfl ?_
            refine k_aload_n X dX11_burn_106 4 rfl ?_
            refine k_get (ci := 11) X inlX11 rfl 32 (by decide) dX11_burn_107 mw185 4 rfl rfl ?_
            refine k_iload_n X dX11_burn_110 2 rfl ?_
            refine k_iload X dX11_burn_111 0 rfl ?_
            refine k_if_eq 120 X dX11_burn_113 (by decide) (fun h_195 => absurd h_195 (by decide)) (fun _ => ?_)
            refine k_iconst (v := 1) X dX11_burn_116 (by decide) ?_
            refine k_goto 121 X dX11_burn_117 (by decide) ?_
            refine k_iast [(cAI g a_r 311 d_r), (cAI g a_leftArc 8 uf_6), (cAI g a_died 8 (upd uf_5 (u_9 : Int32).toNatClampNeg 1)), (cAI g a_arcs 2 fa_168), (cO11_i1r1i10r1i2r5i2r12i3r4i2 h0 m_thrown a_tape m_taped m_size m_at m_end m_token m_whole m_nameSize m_fault m_place m_trouble a_letters m_failed m_hasHouse a_r a_fresh a_st a_undone a_kept m_undos m_images a_from a_begin a_motor a_change a_startFrame a_changeFrame a_lostAt a_blackAt a_slips a_leftArc a_died a_arcs m_bestSum m_nearest m_nearestTown a_there a_backAt a_sorted a_parts m_seed1 m_darkNow), (cAI g a_motor 8 d_motor), (cAI g a_change 8 d_change)] X dX11_burn_121 2 rfl (iv_in iv_118 (by decide) (by decide)) rfl ?_
            refine (fun hg : ∀ fa_196 : Nat → Int32, Wk p l e _ s m args below meth c _ A g _ _ _ [(cAI g a_r 311 d_r), (cAI g a_leftArc 8 uf_6), (cAI g a_died 8 fa_196), (cAI g a_arcs 2 fa_168), (cO11_i1r1i10r1i2r5i2r12i3r4i2 h0 m_thrown a_tape m_taped m_size m_at m_end m_token m_whole m_nameSize m_fault m_place m_trouble a_letters m_failed m_hasHouse a_r a_fresh a_st a_undone a_kept m_undos m_images a_from a_begin a_motor a_change a_startFrame a_changeFrame a_lostAt a_blackAt a_slips a_leftArc a_died a_arcs m_bestSum m_nearest m_nearestTown a_there a_backAt a_sorted a_parts m_seed1 m_darkNow), (cAI g a_motor 8 d_motor), (cAI g a_change 8 d_change)] _ _ _ => hg _) (fun fa_196 => ?_)
            refine k_aload_n X dX11_burn_122 4 rfl ?_
            refine k_get (ci := 11) X inlX11 rfl 33 (by decide) dX11_burn_123 mw186 4 rfl rfl ?_
            refine k_iload X dX11_burn_126 1 rfl ?_
            refine k_iload X dX11_burn_128 0 rfl ?_
            refine k_if_eq 142 X dX11_burn_130 (by decide) (fun h_197 => absurd h_197 (by decide)) (fun _ => ?_)
            refine k_aload_n X dX11_burn_133 4 rfl ?_
            refine k_get (ci := 11) X inlX11 rfl 15 (by decide) dX11_burn_134 mw170 4 rfl rfl ?_
            refine k_iconst (v := 3) X dX11_burn_137 (by decide) ?_
            refine k_iald X dX11_burn_138 0 rfl (by unfold vp_in; decide) ?_
            refine k_to z_1 ez_1.symm ?_
            refine k_goto 155 X dX11_burn_139 (by decide) ?_
            refine k_iast [(cAI g a_r 311 d_r), (cAI g a_leftArc 8 uf_6), (cAI g a_died 8 fa_196), (cAI g a_arcs 2 (upd fa_168 (z_22 : Int32).toNatClampNeg z_1)), (cO11_i1r1i10r1i2r5i2r12i3r4i2 h0 m_thrown a_tape m_taped m_size m_at m_end m_token m_whole m_nameSize m_fault m_place m_trouble a_letters m_failed m_hasHouse a_r a_fresh a_st a_undone a_kept m_undos m_images a_from a_begin a_motor a_change a_startFrame a_changeFrame a_lostAt a_blackAt a_slips a_leftArc a_died a_arcs m_bestSum m_nearest m_nearestTown a_there a_backAt a_sorted a_parts m_seed1 m_darkNow), (cAI g a_motor 8 d_motor), (cAI g a_change 8 d_change)] X dX11_burn_155 3 rfl (iv_in iv_23 (by decide) (by decide)) rfl ?_
            refine (fun hg : ∀ fa_198 : Nat → Int32, Wk p l e _ s m args below meth c _ A g _ _ _ [(cAI g a_r 311 d_r), (cAI g a_leftArc 8 uf_6), (cAI g a_died 8 fa_196), (cAI g a_arcs 2 fa_198), (cO11_i1r1i10r1i2r5i2r12i3r4i2 h0 m_thrown a_tape m_taped m_size m_at m_end m_token m_whole m_nameSize m_fault m_place m_trouble a_letters m_failed m_hasHouse a_r a_fresh a_st a_undone a_kept m_undos m_images a_from a_begin a_motor a_change a_startFrame a_changeFrame a_lostAt a_blackAt a_slips a_leftArc a_died a_arcs m_bestSum m_nearest m_nearestTown a_there a_backAt a_sorted a_parts m_seed1 m_darkNow), (cAI g a_motor 8 d_motor), (cAI g a_change 8 d_change)] _ _ _ => hg _) (fun fa_198 => ?_)
            refine k_aload_n X dX11_burn_156 4 rfl ?_
            refine k_get (ci := 11) X inlX11 rfl 31 (by decide) dX11_burn_157 mw184 4 rfl rfl ?_
            refine k_iload_n X dX11_burn_160 2 rfl ?_
            refine k_aload_n X dX11_burn_161 4 rfl ?_
            refine k_get (ci := 11) X inlX11 rfl 33 (by decide) dX11_burn_162 mw186 4 rfl rfl ?_
            refine k_iload X dX11_burn_165 1 rfl ?_
            refine k_iald X dX11_burn_167 3 rfl (iv_in iv_23 (by decide) (by decide)) ?_
            refine k_nm (fun z_199 ez_199 => ?_)
            refine k_iast [(cAI g a_r 311 d_r), (cAI g a_leftArc 8 (upd uf_6 (u_9 : Int32).toNatClampNeg z_199)), (cAI g a_died 8 fa_196), (cAI g a_arcs 2 fa_198), (cO11_i1r1i10r1i2r5i2r12i3r4i2 h0 m_thrown a_tape m_taped m_size m_at m_end m_token m_whole m_nameSize m_fault m_place m_trouble a_letters m_failed m_hasHouse a_r a_fresh a_st a_undone a_kept m_undos m_images a_from a_begin a_motor a_change a_startFrame a_changeFrame a_lostAt a_blackAt a_slips a_leftArc a_died a_arcs m_bestSum m_nearest m_nearestTown a_there a_backAt a_sorted a_parts m_seed1 m_darkNow), (cAI g a_motor 8 d_motor), (cAI g a_change 8 d_change)] X dX11_burn_168 1 rfl (iv_in iv_118 (by decide) (by decide)) rfl ?_
            refine (fun hg : ∀ fa_200 : Nat → Int32, Wk p l e _ s m args below meth c _ A g _ _ _ [(cAI g a_r 311 d_r), (cAI g a_leftArc 8 fa_200), (cAI g a_died 8 fa_196), (cAI g a_arcs 2 fa_198), (cO11_i1r1i10r1i2r5i2r12i3r4i2 h0 m_thrown a_tape m_taped m_size m_at m_end m_token m_whole m_nameSize m_fault m_place m_trouble a_letters m_failed m_hasHouse a_r a_fresh a_st a_undone a_kept m_undos m_images a_from a_begin a_motor a_change a_startFrame a_changeFrame a_lostAt a_blackAt a_slips a_leftArc a_died a_arcs m_bestSum m_nearest m_nearestTown a_there a_backAt a_sorted a_parts m_seed1 m_darkNow), (cAI g a_motor 8 d_motor), (cAI g a_change 8 d_change)] _ _ _ => hg _) (fun fa_200 => ?_)
            refine k_iload_n X dX11_burn_169 3 rfl ?_
            refine k_if_eq 182 X dX11_burn_170 (by decide) (fun h_201 => ?_) (fun h_201 => ?_)
            · skip
              have iv_202 : IV u_7 0 0 := iv_meet hv_8 (iv_e h_201 (show IV 0 0 0 from (by decide))) (by decide) (by decide)
              refine k_iconst (v := 0) X dX11_burn_182 (by decide) ?_
              refine k_istore_n [(2, .int 0), (5, .int 1), (4, .int z_22), (3, .int u_9), (0, .ref h0), (1, .int p0)] X dX11_burn_183 (by decide) rfl ?_
              obtain ⟨z_203, ez_203⟩ : ∃ y : Int32, u_9 + Int32.ofInt 1 = y := ⟨_, rfl⟩
              refine k_iinc z_203 [(3, .int z_203), (2, .int 0), (5, .int 1), (4, .int z_22), (0, .ref h0), (1, .int p0)] 3 X dX11_burn_184 rfl ez_203 (by decide) rfl ?_
              have i_204 : z_203.toInt = u_9.toInt + 1 := in_inc ez_203 (by decide) iv_118 (by decide) (by decide)
              have iv_205 : IV z_203 3 8 := iz1 i_204 iv_118 (by decide) (by decide)
              refine k_goto 28 X dX11_burn_187 (by decide) ?_
              refine k_lv [(3, .int z_203), (2, .int 0), (0, .ref h0), (1, .int p0)] [0, 1, 4, 5] rfl ?_
              refine k_sub [(cO11_i1r1i10r1i2r5i2r12i3r4i2 h0 m_thrown a_tape m_taped m_size m_at m_end m_token m_whole m_nameSize m_fault m_place m_trouble a_letters m_failed m_hasHouse a_r a_fresh a_st a_undone a_kept m_undos m_images a_from a_begin a_motor a_change a_startFrame a_changeFrame a_lostAt a_blackAt a_slips a_leftArc a_died a_arcs m_bestSum m_nearest m_nearestTown a_there a_backAt a_sorted a_parts m_seed1 m_darkNow), (cAI g a_r 311 d_r), (cAI g a_motor 8 d_motor), (cAI g a_change 8 d_change), (cAI g a_leftArc 8 fa_200), (cAI g a_died 8 fa_196), (cAI g a_arcs 2 fa_198)] [4, 0, 5, 6, 1, 2, 3] rfl (by decide) rfl ?_
              exact ih_13 _ (by omega) fa_198 fa_196 fa_200 0 z_203 rfl (iv_w (show IV 0 0 0 from (by decide)) (by decide) (by decide)) (iv_w iv_205 (by decide) (by decide))
            · skip
              have iv_206 : IV u_7 1 1 := iv_neL h_201 hv_8 (show IV 0 0 0 from (by decide)) (by decide)
              refine k_iload X dX11_burn_173 0 rfl ?_
              refine k_if_ne 182 X dX11_burn_175 (by decide) (fun _ => ?_) (fun h_207 => absurd h_207 (by decide))
              refine k_iconst (v := 0) X dX11_burn_182 (by decide) ?_
              refine k_istore_n [(2, .int 0), (5, .int 1), (4, .int z_22), (3, .int u_9), (0, .ref h0), (1, .int p0)] X dX11_burn_183 (by decide) rfl ?_
              obtain ⟨z_208, ez_208⟩ : ∃ y : Int32, u_9 + Int32.ofInt 1 = y := ⟨_, rfl⟩
              refine k_iinc z_208 [(3, .int z_208), (2, .int 0), (5, .int 1), (4, .int z_22), (0, .ref h0), (1, .int p0)] 3 X dX11_burn_184 rfl ez_208 (by decide) rfl ?_
              have i_209 : z_208.toInt = u_9.toInt + 1 := in_inc ez_208 (by decide) iv_118 (by decide) (by decide)
              have iv_210 : IV z_208 3 8 := iz1 i_209 iv_118 (by decide) (by decide)
              refine k_goto 28 X dX11_burn_187 (by decide) ?_
              refine k_lv [(3, .int z_208), (2, .int 0), (0, .ref h0), (1, .int p0)] [0, 1, 4, 5] rfl ?_
              refine k_sub [(cO11_i1r1i10r1i2r5i2r12i3r4i2 h0 m_thrown a_tape m_taped m_size m_at m_end m_token m_whole m_nameSize m_fault m_place m_trouble a_letters m_failed m_hasHouse a_r a_fresh a_st a_undone a_kept m_undos m_images a_from a_begin a_motor a_change a_startFrame a_changeFrame a_lostAt a_blackAt a_slips a_leftArc a_died a_arcs m_bestSum m_nearest m_nearestTown a_there a_backAt a_sorted a_parts m_seed1 m_darkNow), (cAI g a_r 311 d_r), (cAI g a_motor 8 d_motor), (cAI g a_change 8 d_change), (cAI g a_leftArc 8 fa_200), (cAI g a_died 8 fa_196), (cAI g a_arcs 2 fa_198)] [4, 0, 5, 6, 1, 2, 3] rfl (by decide) rfl ?_
              exact ih_13 _ (by omega) fa_198 fa_196 fa_200 0 z_208 rfl (iv_w (show IV 0 0 0 from (by decide)) (by decide) (by decide)) (iv_w iv_210 (by decide) (by decide))

theorem dX11_needs_0 : decode cX11_needs 0 = .ok (.aload_n 0, 1) := dk_42 rfl
theorem dX11_needs_1 : decode cX11_needs 1 = .ok (.invokevirtual 200, 3) := dk_182 rfl rfl rfl rfl
theorem dX11_needs_4 : decode cX11_needs 4 = .ok (.aload_n 0, 1) := dk_42 rfl
theorem dX11_needs_5 : decode cX11_needs 5 = .ok (.iload_n 1, 1) := dk_27 rfl
theorem dX11_needs_6 : decode cX11_needs 6 = .ok (.iload_n 2, 1) := dk_28 rfl
theorem dX11_needs_7 : decode cX11_needs 7 = .ok (.invokevirtual 376, 3) := dk_182 rfl rfl rfl rfl
theorem dX11_needs_10 : decode cX11_needs 10 = .ok (.ifCond .eq 11, 3) := dk_153 rfl rfl rfl (by decide)
theorem dX11_needs_13 : decode cX11_needs 13 = .ok (.aload_n 0, 1) := dk_42 rfl
theorem dX11_needs_14 : decode cX11_needs 14 = .ok (.iload_n 2, 1) := dk_28 rfl
theorem dX11_needs_15 : decode cX11_needs 15 = .ok (.invokevirtual 388, 3) := dk_182 rfl rfl rfl rfl
theorem dX11_needs_18 : decode cX11_needs 18 = .ok (.goto 8, 3) := dk_167 rfl rfl rfl (by decide)
theorem dX11_needs_21 : decode cX11_needs 21 = .ok (.aload_n 0, 1) := dk_42 rfl
theorem dX11_needs_22 : decode cX11_needs 22 = .ok (.iconst 1, 1) := dk_4 rfl
theorem dX11_needs_23 : decode cX11_needs 23 = .ok (.invokevirtual 203, 3) := dk_182 rfl rfl rfl rfl
theorem dX11_needs_26 : decode cX11_needs 26 = .ok (.ireturn, 1) := dk_172 rfl
set_option maxHeartbeats 4000000 in
set_option maxRecDepth 100000 in
theorem m_needs (l : Launch) (g : Gx) (h0 : Nat) (p0 : Int32) (p1 : Int32) (m_thrown : Int32) (a_tape : Nat) (m_taped : Int32) (m_size : Int32) (m_at : Int32) (m_end : Int32) (m_token : Int32) (m_whole : Int32) (m_nameSize : Int32) (m_fault : Int32) (m_place : Int32) (m_trouble : Int32) (a_letters : Nat) (m_failed : Int32) (m_hasHouse : Int32) (a_r : Nat) (a_fresh : Nat) (a_st : Nat) (a_undone : Nat) (a_kept : Nat) (m_undos : Int32) (m_images : Int32) (a_from : Nat) (a_begin : Nat) (a_motor : Nat) (a_change : Nat) (a_startFrame : Nat) (a_changeFrame : Nat) (a_lostAt : Nat) (a_blackAt : Nat) (a_slips : Nat) (a_leftArc : Nat) (a_died : Nat) (a_arcs : Nat) (m_bestSum : Int32) (m_nearest : Int32) (m_nearestTown : Int32) (a_there : Nat) (a_backAt : Nat) (a_sorted : Nat) (a_parts : Nat) (m_seed1 : Int32) (m_darkNow : Int32) (d_r : Nat → Int32) (d_st : Nat → Int32) (d_from : Nat → Int32) (d_begin : Nat → Int32) (d_motor : Nat → Int32) (d_change : Nat → Int32) (d_startFrame : Nat → Int32) (d_changeFrame : Nat → Int32) (d_lostAt : Nat → Int32) (d_blackAt : Nat → Int32) (d_slips : Nat → Int32) (hv_m_hasHouse : IV m_hasHouse 0 1) (hp_d_r : RInv d_r) : cI l g yX11_needs cX11_needs 3 (some .int) 6 132 0 0 [.ref h0, .int p0, .int p1] [(cO11_i1r1i10r1i2r5i2r12i3r4i2 h0 m_thrown a_tape m_taped m_size m_at m_end m_token m_whole m_nameSize m_fault m_place m_trouble a_letters m_failed m_hasHouse a_r a_fresh a_st a_undone a_kept m_undos m_images a_from a_begin a_motor a_change a_startFrame a_changeFrame a_lostAt a_blackAt a_slips a_leftArc a_died a_arcs m_bestSum m_nearest m_nearestTown a_there a_backAt a_sorted a_parts m_seed1 m_darkNow), (cAI g a_r 311 d_r), (cAI g a_st 44 d_st), (cAI g a_from 8 d_from), (cAI g a_begin 8 d_begin), (cAI g a_motor 8 d_motor), (cAI g a_change 8 d_change), (cAI g a_startFrame 8 d_startFrame), (cAI g a_changeFrame 8 d_changeFrame), (cAI g a_lostAt 8 d_lostAt), (cAI g a_blackAt 8 d_blackAt), (cAI g a_slips 8 d_slips)] (fun r w => ∃ (d_begin2 : Nat → Int32) (d_blackAt2 : Nat → Int32) (d_change2 : Nat → Int32) (d_changeFrame2 : Nat → Int32) (d_from2 : Nat → Int32) (d_lostAt2 : Nat → Int32) (d_motor2 : Nat → Int32) (d_slips2 : Nat → Int32) (d_startFrame2 : Nat → Int32) (m_thrown2 : Int32) (m_trouble2 : Int32), w = [(cO11_i1r1i10r1i2r5i2r12i3r4i2 h0 m_thrown2 a_tape m_taped m_size m_at m_end m_token m_whole m_nameSize m_fault m_place m_trouble2 a_letters m_failed m_hasHouse a_r a_fresh a_st a_undone a_kept m_undos m_images a_from a_begin a_motor a_change a_startFrame a_changeFrame a_lostAt a_blackAt a_slips a_leftArc a_died a_arcs m_bestSum m_nearest m_nearestTown a_there a_backAt a_sorted a_parts m_seed1 m_darkNow), (cAI g a_r 311 d_r), (cAI g a_st 44 d_st), (cAI g a_from 8 d_from2), (cAI g a_begin 8 d_begin2), (cAI g a_motor 8 d_motor2), (cAI g a_change 8 d_change2), (cAI g a_startFrame 8 d_startFrame2), (cAI g a_changeFrame 8 d_changeFrame2), (cAI g a_lostAt 8 d_lostAt2), (cAI g a_blackAt 8 d_blackAt2), (cAI g a_slips 8 d_slips2)]) := by
  refine cI.of (by decide) (Nat.le_of_ble_eq_true rfl) ?_
  intro p e s m args below meth c A X hr hi
  refine k_lveq [(0, .ref h0), (1, .int p0), (2, .int p1)] rfl ?_
  refine k_aload_n X dX11_needs_0 0 rfl ?_
  refine k_callVV (n := 0) (As := []) (st := []) X [(cO11_i1r1i10r1i2r5i2r12i3r4i2 h0 m_thrown a_tape m_taped m_size m_at m_end m_token m_whole m_nameSize m_fault m_place m_trouble a_letters m_failed m_hasHouse a_r a_fresh a_st a_undone a_kept m_undos m_images a_from a_begin a_motor a_change a_startFrame a_changeFrame a_lostAt a_blackAt a_slips a_leftArc a_died a_arcs m_bestSum m_nearest m_nearestTown a_there a_backAt a_sorted a_parts m_seed1 m_darkNow)] [(cAI g a_r 311 d_r), (cAI g a_st 44 d_st), (cAI g a_from 8 d_from), (cAI g a_begin 8 d_begin), (cAI g a_motor 8 d_motor), (cAI g a_change 8 d_change), (cAI g a_startFrame 8 d_startFrame), (cAI g a_changeFrame 8 d_changeFrame), (cAI g a_lostAt 8 d_lostAt), (cAI g a_blackAt 8 d_blackAt), (cAI g a_slips 8 d_slips)] [0] [1, 2, 3, 4, 5, 6, 7, 8, 9, 10, 11] (m_good l g h0 m_thrown a_tape m_taped m_size m_at m_end m_token m_whole m_nameSize m_fault m_place m_trouble a_letters m_failed m_hasHouse a_r a_fresh a_st a_undone a_kept m_undos m_images a_from a_begin a_motor a_change a_startFrame a_changeFrame a_lostAt a_blackAt a_slips a_leftArc a_died a_arcs m_bestSum m_nearest m_nearestTown a_there a_backAt a_sorted a_parts m_seed1 m_darkNow) dX11_needs_1 mw477 mw478 mw479 mw5 mw480 rfl 11 rfl rfl 0 _ rfl yk_yX11_good_0 rfl (Nat.le_of_ble_eq_true rfl) (Nat.le_of_ble_eq_true rfl) (Nat.le_of_ble_eq_true rfl) (Nat.le_of_ble_eq_true rfl) (Nat.le_of_ble_eq_true rfl) rfl rfl (by decide +kernel) rfl (by decide +kernel) (by decide +kernel) ?_
  rintro w ⟨m_thrown2_1, m_trouble2_2, rfl⟩
  refine k_ws [(cAI g a_r 311 d_r), (cAI g a_st 44 d_st), (cAI g a_from 8 d_from), (cAI g a_begin 8 d_begin), (cAI g a_motor 8 d_motor), (cAI g a_change 8 d_change), (cAI g a_startFrame 8 d_startFrame), (cAI g a_changeFrame 8 d_changeFrame), (cAI g a_lostAt 8 d_lostAt), (cAI g a_blackAt 8 d_blackAt), (cAI g a_slips 8 d_slips), (cO11_i1r1i10r1i2r5i2r12i3r4i2 h0 m_thrown2_1 a_tape m_taped m_size m_at m_end m_token m_whole m_nameSize m_fault m_place m_trouble2_2 a_letters m_failed m_hasHouse a_r a_fresh a_st a_undone a_kept m_undos m_images a_from a_begin a_motor a_change a_startFrame a_changeFrame a_lostAt a_blackAt a_slips a_leftArc a_died a_arcs m_bestSum m_nearest m_nearestTown a_there a_backAt a_sorted a_parts m_seed1 m_darkNow)] rfl ?_
  refine k_aload_n X dX11_needs_4 0 rfl ?_
  refine k_iload_n X dX11_needs_5 1 rfl ?_
  refine k_iload_n X dX11_needs_6 2 rfl ?_
  refine k_callVI (n := 2) (As := [.int p0, .int p1]) (st := []) X [(cO11_i1r1i10r1i2r5i2r12i3r4i2 h0 m_thrown2_1 a_tape m_taped m_size m_at m_end m_token m_whole m_nameSize m_fault m_place m_trouble2_2 a_letters m_failed m_hasHouse a_r a_fresh a_st a_undone a_kept m_undos m_images a_from a_begin a_motor a_change a_startFrame a_changeFrame a_lostAt a_blackAt a_slips a_leftArc a_died a_arcs m_bestSum m_nearest m_nearestTown a_there a_backAt a_sorted a_parts m_seed1 m_darkNow), (cAI g a_r 311 d_r), (cAI g a_st 44 d_st), (cAI g a_from 8 d_from), (cAI g a_begin 8 d_begin), (cAI g a_motor 8 d_motor), (cAI g a_change 8 d_change), (cAI g a_startFrame 8 d_startFrame), (cAI g a_changeFrame 8 d_changeFrame), (cAI g a_lostAt 8 d_lostAt), (cAI g a_blackAt 8 d_blackAt), (cAI g a_slips 8 d_slips)] [] [11, 0, 1, 2, 3, 4, 5, 6, 7, 8, 9, 10] [] (m_canTell l g h0 p0 p1 m_thrown2_1 a_tape m_taped m_size m_at m_end m_token m_whole m_nameSize m_fault m_place m_trouble2_2 a_letters m_failed m_hasHouse a_r a_fresh a_st a_undone a_kept m_undos m_images a_from a_begin a_motor a_change a_startFrame a_changeFrame a_lostAt a_blackAt a_slips a_leftArc a_died a_arcs m_bestSum m_nearest m_nearestTown a_there a_backAt a_sorted a_parts m_seed1 m_darkNow d_r d_st d_from d_begin d_motor d_change d_startFrame d_changeFrame d_lostAt d_blackAt d_slips (iv_w hv_m_hasHouse (by decide) (by decide)) hp_d_r) dX11_needs_7 mw807 mw808 mw809 mw5 mw810 rfl 11 rfl rfl 0 _ rfl yk_yX11_canTell_2 rfl (Nat.le_of_ble_eq_true rfl) (Nat.le_of_ble_eq_true rfl) (Nat.le_of_ble_eq_true rfl) (Nat.le_of_ble_eq_true rfl) (Nat.le_of_ble_eq_true rfl) rfl rfl (by decide +kernel) rfl (by decide +kernel) (by decide +kernel) ?_
  intro r_13 w zq
  refine exE9 zq ?_
  clear zq
  intro d_begin2_4 d_blackAt2_5 d_change2_6 d_changeFrame2_7 d_from2_8 d_lostAt2_9 d_motor2_10 d_slips2_11 d_startFrame2_12 iv_14 zq
  refine exA1 zq ?_
  clear zq
  intro hk_15 zq
  subst zq
  refine k_ws [(cO11_i1r1i10r1i2r5i2r12i3r4i2 h0 m_thrown2_1 a_tape m_taped m_size m_at m_end m_token m_whole m_nameSize m_fault m_place m_trouble2_2 a_letters m_failed m_hasHouse a_r a_fresh a_st a_undone a_kept m_undos m_images a_from a_begin a_motor a_change a_startFrame a_changeFrame a_lostAt a_blackAt a_slips a_leftArc a_died a_arcs m_bestSum m_nearest m_nearestTown a_there a_backAt a_sorted a_parts m_seed1 m_darkNow), (cAI g a_r 311 d_r), (cAI g a_st 44 d_st), (cAI g a_from 8 d_from2_8), (cAI g a_begin 8 d_begin2_4), (cAI g a_motor 8 d_motor2_10), (cAI g a_change 8 d_change2_6), (cAI g a_startFrame 8 d_startFrame2_12), (cAI g a_changeFrame 8 d_changeFrame2_7), (cAI g a_lostAt 8 d_lostAt2_9), (cAI g a_blackAt 8 d_blackAt2_5), (cAI g a_slips 8 d_slips2_11)] rfl ?_
  refine k_if_eq 21 X dX11_needs_10 (by decide) (fun h_16 => ?_) (fun h_16 => ?_)
  · skip
    have iv_17 : IV r_13 0 0 := iv_meet iv_14 (iv_e h_16 (show IV 0 0 0 from (by decide))) (by decide) (by decide)
    refine k_aload_n X dX11_needs_21 0 rfl ?_
    refine k_iconst (v := 1) X dX11_needs_22 (by decide) ?_
    refine k_callVI (n := 1) (As := [.int 1]) (st := []) X [(cO11_i1r1i10r1i2r5i2r12i3r4i2 h0 m_thrown2_1 a_tape m_taped m_size m_at m_end m_token m_whole m_nameSize m_fault m_place m_trouble2_2 a_letters m_failed m_hasHouse a_r a_fresh a_st a_undone a_kept m_undos m_images a_from a_begin a_motor a_change a_startFrame a_changeFrame a_lostAt a_blackAt a_slips a_leftArc a_died a_arcs m_bestSum m_nearest m_nearestTown a_there a_backAt a_sorted a_parts m_seed1 m_darkNow)] [(cAI g a_r 311 d_r), (cAI g a_st 44 d_st), (cAI g a_from 8 d_from2_8), (cAI g a_begin 8 d_begin2_4), (cAI g a_motor 8 d_motor2_10), (cAI g a_change 8 d_change2_6), (cAI g a_startFrame 8 d_startFrame2_12), (cAI g a_changeFrame 8 d_changeFrame2_7), (cAI g a_lostAt 8 d_lostAt2_9), (cAI g a_blackAt 8 d_blackAt2_5), (cAI g a_slips 8 d_slips2_11)] [0] [1, 2, 3, 4, 5, 6, 7, 8, 9, 10, 11] (m_no l g h0 1 m_thrown2_1 a_tape m_taped m_size m_at m_end m_token m_whole m_nameSize m_fault m_place m_trouble2_2 a_letters m_failed m_hasHouse a_r a_fresh a_st a_undone a_kept m_undos m_images a_from a_begin a_motor a_change a_startFrame a_changeFrame a_lostAt a_blackAt a_slips a_leftArc a_died a_arcs m_bestSum m_nearest m_nearestTown a_there a_backAt a_sorted a_parts m_seed1 m_darkNow) dX11_needs_23 mw485 mw486 mw487 mw5 mw488 rfl 11 rfl rfl 0 _ rfl yk_yX11_no_1 rfl (Nat.le_of_ble_eq_true rfl) (Nat.le_of_ble_eq_true rfl) (Nat.le_of_ble_eq_true rfl) (Nat.le_of_ble_eq_true rfl) (Nat.le_of_ble_eq_true rfl) rfl rfl (by decide +kernel) rfl (by decide +kernel) (by decide +kernel) ?_
    rintro r_19 w ⟨m_trouble2_18, iv_20, rfl⟩
    refine k_ws [(cAI g a_r 311 d_r), (cAI g a_st 44 d_st), (cAI g a_from 8 d_from2_8), (cAI g a_begin 8 d_begin2_4), (cAI g a_motor 8 d_motor2_10), (cAI g a_change 8 d_change2_6), (cAI g a_startFrame 8 d_startFrame2_12), (cAI g a_changeFrame 8 d_changeFrame2_7), (cAI g a_lostAt 8 d_lostAt2_9), (cAI g a_blackAt 8 d_blackAt2_5), (cAI g a_slips 8 d_slips2_11), (cO11_i1r1i10r1i2r5i2r12i3r4i2 h0 m_thrown2_1 a_tape m_taped m_size m_at m_end m_token m_whole m_nameSize m_fault m_place m_trouble2_18 a_letters m_failed m_hasHouse a_r a_fresh a_st a_undone a_kept m_undos m_images a_from a_begin a_motor a_change a_startFrame a_changeFrame a_lostAt a_blackAt a_slips a_leftArc a_died a_arcs m_bestSum m_nearest m_nearestTown a_there a_backAt a_sorted a_parts m_seed1 m_darkNow)] rfl ?_
    exact k_iret X hr dX11_needs_26 (Nat.le_of_ble_eq_true rfl) (Nat.le_of_ble_eq_true rfl) [11, 0, 1, 2, 3, 4, 5, 6, 7, 8, 9, 10] (by decide) rfl rfl ⟨d_begin2_4, d_blackAt2_5, d_change2_6, d_changeFrame2_7, d_from2_8, d_lostAt2_9, d_motor2_10, d_slips2_11, d_startFrame2_12, m_thrown2_1, m_trouble2_18, rfl⟩
  · skip
    have hc_21 := hk_15.resolve_left h_16
    have iv_22 : IV p0 0 3 := iv_meet (iv_any p0) hc_21.1 (by decide) (by decide)
    have iv_23 : IV p1 0 7 := iv_meet (iv_any p1) hc_21.2.1 (by decide) (by decide)
    have j_24 : p1.toInt < (d_r 12).toInt := hc_21.2.2
    have iv_25 : IV r_13 1 1 := iv_neL h_16 iv_14 (show IV 0 0 0 from (by decide)) (by decide)
    refine k_aload_n X dX11_needs_13 0 rfl ?_
    refine k_iload_n X dX11_needs_14 2 rfl ?_
    refine k_callVI (n := 1) (As := [.int p1]) (st := []) X [(cO11_i1r1i10r1i2r5i2r12i3r4i2 h0 m_thrown2_1 a_tape m_taped m_size m_at m_end m_token m_whole m_nameSize m_fault m_place m_trouble2_2 a_letters m_failed m_hasHouse a_r a_fresh a_st a_undone a_kept m_undos m_images a_from a_begin a_motor a_change a_startFrame a_changeFrame a_lostAt a_blackAt a_slips a_leftArc a_died a_arcs m_bestSum m_nearest m_nearestTown a_there a_backAt a_sorted a_parts m_seed1 m_darkNow), (cAI g a_motor 8 d_motor2_10), (cAI g a_change 8 d_change2_6)] [(cAI g a_r 311 d_r), (cAI g a_st 44 d_st), (cAI g a_from 8 d_from2_8), (cAI g a_begin 8 d_begin2_4), (cAI g a_startFrame 8 d_startFrame2_12), (cAI g a_changeFrame 8 d_changeFrame2_7), (cAI g a_lostAt 8 d_lostAt2_9), (cAI g a_blackAt 8 d_blackAt2_5), (cAI g a_slips 8 d_slips2_11)] [0, 5, 6] [1, 2, 3, 4, 7, 8, 9, 10, 11] (m_needsOf l g h0 p1 m_thrown2_1 a_tape m_taped m_size m_at m_end m_token m_whole m_nameSize m_fault m_place m_trouble2_2 a_letters m_failed m_hasHouse a_r a_fresh a_st a_undone a_kept m_undos m_images a_from a_begin a_motor a_change a_startFrame a_changeFrame a_lostAt a_blackAt a_slips a_leftArc a_died a_arcs m_bestSum m_nearest m_nearestTown a_there a_backAt a_sorted a_parts m_seed1 m_darkNow d_motor2_10 d_change2_6 (iv_w iv_23 (by decide) (by decide))) dX11_needs_15 mw1022 mw1023 mw1024 mw5 mw1025 rfl 11 rfl rfl 0 _ rfl yk_yX11_needsOf_1 rfl (Nat.le_of_ble_eq_true rfl) (Nat.le_of_ble_eq_true rfl) (Nat.le_of_ble_eq_true rfl) (Nat.le_of_ble_eq_true rfl) (Nat.le_of_ble_eq_true rfl) rfl rfl (by decide +kernel) rfl (by decide +kernel) (by decide +kernel) ?_
    rintro r_26 w rfl
    refine k_ws [(cAI g a_r 311 d_r), (cAI g a_st 44 d_st), (cAI g a_from 8 d_from2_8), (cAI g a_begin 8 d_begin2_4), (cAI g a_startFrame 8 d_startFrame2_12), (cAI g a_changeFrame 8 d_changeFrame2_7), (cAI g a_lostAt 8 d_lostAt2_9), (cAI g a_blackAt 8 d_blackAt2_5), (cAI g a_slips 8 d_slips2_11), (cO11_i1r1i10r1i2r5i2r12i3r4i2 h0 m_thrown2_1 a_tape m_taped m_size m_at m_end m_token m_whole m_nameSize m_fault m_place m_trouble2_2 a_letters m_failed m_hasHouse a_r a_fresh a_st a_undone a_kept m_undos m_images a_from a_begin a_motor a_change a_startFrame a_changeFrame a_lostAt a_blackAt a_slips a_leftArc a_died a_arcs m_bestSum m_nearest m_nearestTown a_there a_backAt a_sorted a_parts m_seed1 m_darkNow), (cAI g a_motor 8 d_motor2_10), (cAI g a_change 8 d_change2_6)] rfl ?_
    refine k_goto 26 X dX11_needs_18 (by decide) ?_
    exact k_iret X hr dX11_needs_26 (Nat.le_of_ble_eq_true rfl) (Nat.le_of_ble_eq_true rfl) [9, 0, 1, 2, 3, 10, 11, 4, 5, 6, 7, 8] (by decide) rfl rfl ⟨d_begin2_4, d_blackAt2_5, d_change2_6, d_changeFrame2_7, d_from2_8, d_lostAt2_9, d_motor2_10, d_slips2_11, d_startFrame2_12, m_thrown2_1, m_trouble2_2, rfl⟩

theorem dX11_dies_0 : decode cX11_dies 0 = .ok (.aload_n 0, 1) := dk_42 rfl
theorem dX11_dies_1 : decode cX11_dies 1 = .ok (.invokevirtual 200, 3) := dk_182 rfl rfl rfl rfl
theorem dX11_dies_4 : decode cX11_dies 4 = .ok (.aload_n 0, 1) := dk_42 rfl
theorem dX11_dies_5 : decode cX11_dies 5 = .ok (.iload_n 1, 1) := dk_27 rfl
theorem dX11_dies_6 : decode cX11_dies 6 = .ok (.iload_n 2, 1) := dk_28 rfl
theorem dX11_dies_7 : decode cX11_dies 7 = .ok (.invokevirtual 376, 3) := dk_182 rfl rfl rfl rfl
theorem dX11_dies_10 : decode cX11_dies 10 = .ok (.ifCond .ne 9, 3) := dk_154 rfl rfl rfl (by decide)
theorem dX11_dies_13 : decode cX11_dies 13 = .ok (.aload_n 0, 1) := dk_42 rfl
theorem dX11_dies_14 : decode cX11_dies 14 = .ok (.iconst 1, 1) := dk_4 rfl
theorem dX11_dies_15 : decode cX11_dies 15 = .ok (.invokevirtual 203, 3) := dk_182 rfl rfl rfl rfl
theorem dX11_dies_18 : decode cX11_dies 18 = .ok (.ireturn, 1) := dk_172 rfl
theorem dX11_dies_19 : decode cX11_dies 19 = .ok (.aload_n 0, 1) := dk_42 rfl
theorem dX11_dies_20 : decode cX11_dies 20 = .ok (.aload_n 0, 1) := dk_42 rfl
theorem dX11_dies_21 : decode cX11_dies 21 = .ok (.getfield 26, 3) := dk_180 rfl rfl rfl rfl
theorem dX11_dies_24 : decode cX11_dies 24 = .ok (.bipush 42, 2) := dk_16 rfl rfl (by decide)
theorem dX11_dies_26 : decode cX11_dies 26 = .ok (.iaload, 1) := dk_46 rfl
theorem dX11_dies_27 : decode cX11_dies 27 = .ok (.invokevirtual 391, 3) := dk_182 rfl rfl rfl rfl
theorem dX11_dies_30 : decode cX11_dies 30 = .ok (.pop, 1) := dk_87 rfl
theorem dX11_dies_31 : decode cX11_dies 31 = .ok (.aload_n 0, 1) := dk_42 rfl
theorem dX11_dies_32 : decode cX11_dies 32 = .ok (.getfield 65, 3) := dk_180 rfl rfl rfl rfl
theorem dX11_dies_35 : decode cX11_dies 35 = .ok (.iload_n 2, 1) := dk_28 rfl
theorem dX11_dies_36 : decode cX11_dies 36 = .ok (.iaload, 1) := dk_46 rfl
theorem dX11_dies_37 : decode cX11_dies 37 = .ok (.ireturn, 1) := dk_172 rfl
set_option maxHeartbeats 4000000 in
set_option maxRecDepth 100000 in
theorem m_dies (l : Launch) (g : Gx) (h0 : Nat) (p0 : Int32) (p1 : Int32) (m_thrown : Int32) (a_tape : Nat) (m_taped : Int32) (m_size : Int32) (m_at : Int32) (m_end : Int32) (m_token : Int32) (m_whole : Int32) (m_nameSize : Int32) (m_fault : Int32) (m_place : Int32) (m_trouble : Int32) (a_letters : Nat) (m_failed : Int32) (m_hasHouse : Int32) (a_r : Nat) (a_fresh : Nat) (a_st : Nat) (a_undone : Nat) (a_kept : Nat) (m_undos : Int32) (m_images : Int32) (a_from : Nat) (a_begin : Nat) (a_motor : Nat) (a_change : Nat) (a_startFrame : Nat) (a_changeFrame : Nat) (a_lostAt : Nat) (a_blackAt : Nat) (a_slips : Nat) (a_leftArc : Nat) (a_died : Nat) (a_arcs : Nat) (m_bestSum : Int32) (m_nearest : Int32) (m_nearestTown : Int32) (a_there : Nat) (a_backAt : Nat) (a_sorted : Nat) (a_parts : Nat) (m_seed1 : Int32) (m_darkNow : Int32) (d_r : Nat → Int32) (d_st : Nat → Int32) (d_from : Nat → Int32) (d_begin : Nat → Int32) (d_motor : Nat → Int32) (d_change : Nat → Int32) (d_startFrame : Nat → Int32) (d_changeFrame : Nat → Int32) (d_lostAt : Nat → Int32) (d_blackAt : Nat → Int32) (d_slips : Nat → Int32) (d_leftArc : Nat → Int32) (d_died : Nat → Int32) (d_arcs : Nat → Int32) (hv_m_hasHouse : IV m_hasHouse 0 1) (hp_d_r : RInv d_r) : cI l g yX11_dies cX11_dies 3 (some .int) 6 132 0 0 [.ref h0, .int p0, .int p1] [(cO11_i1r1i10r1i2r5i2r12i3r4i2 h0 m_thrown a_tape m_taped m_size m_at m_end m_token m_whole m_nameSize m_fault m_place m_trouble a_letters m_failed m_hasHouse a_r a_fresh a_st a_undone a_kept m_undos m_images a_from a_begin a_motor a_change a_startFrame a_changeFrame a_lostAt a_blackAt a_slips a_leftArc a_died a_arcs m_bestSum m_nearest m_nearestTown a_there a_backAt a_sorted a_parts m_seed1 m_darkNow), (cAI g a_r 311 d_r), (cAI g a_st 44 d_st), (cAI g a_from 8 d_from), (cAI g a_begin 8 d_begin), (cAI g a_motor 8 d_motor), (cAI g a_change 8 d_change), (cAI g a_startFrame 8 d_startFrame), (cAI g a_changeFrame 8 d_changeFrame), (cAI g a_lostAt 8 d_lostAt), (cAI g a_blackAt 8 d_blackAt), (cAI g a_slips 8 d_slips), (cAI g a_leftArc 8 d_leftArc), (cAI g a_died 8 d_died), (cAI g a_arcs 2 d_arcs)] (fun r w => ∃ (d_arcs2 : Nat → Int32) (d_begin2 : Nat → Int32) (d_blackAt2 : Nat → Int32) (d_change2 : Nat → Int32) (d_changeFrame2 : Nat → Int32) (d_died2 : Nat → Int32) (d_from2 : Nat → Int32) (d_leftArc2 : Nat → Int32) (d_lostAt2 : Nat → Int32) (d_motor2 : Nat → Int32) (d_slips2 : Nat → Int32) (d_startFrame2 : Nat → Int32) (m_thrown2 : Int32) (m_trouble2 : Int32), w = [(cO11_i1r1i10r1i2r5i2r12i3r4i2 h0 m_thrown2 a_tape m_taped m_size m_at m_end m_token m_whole m_nameSize m_fault m_place m_trouble2 a_letters m_failed m_hasHouse a_r a_fresh a_st a_undone a_kept m_undos m_images a_from a_begin a_motor a_change a_startFrame a_changeFrame a_lostAt a_blackAt a_slips a_leftArc a_died a_arcs m_bestSum m_nearest m_nearestTown a_there a_backAt a_sorted a_parts m_seed1 m_darkNow), (cAI g a_r 311 d_r), (cAI g a_st 44 d_st), (cAI g a_from 8 d_from2), (cAI g a_begin 8 d_begin2), (cAI g a_motor 8 d_motor2), (cAI g a_change 8 d_change2), (cAI g a_startFrame 8 d_startFrame2), (cAI g a_changeFrame 8 d_changeFrame2), (cAI g a_lostAt 8 d_lostAt2), (cAI g a_blackAt 8 d_blackAt2), (cAI g a_slips 8 d_slips2), (cAI g a_leftArc 8 d_leftArc2), (cAI g a_died 8 d_died2), (cAI g a_arcs 2 d_arcs2)]) := by
  refine cI.of (by decide) (Nat.le_of_ble_eq_true rfl) ?_
  intro p e s m args below meth c A X hr hi
  refine k_lveq [(0, .ref h0), (1, .int p0), (2, .int p1)] rfl ?_
  refine k_aload_n X dX11_dies_0 0 rfl ?_
  refine k_callVV (n := 0) (As := []) (st := []) X [(cO11_i1r1i10r1i2r5i2r12i3r4i2 h0 m_thrown a_tape m_taped m_size m_at m_end m_token m_whole m_nameSize m_fault m_place m_trouble a_letters m_failed m_hasHouse a_r a_fresh a_st a_undone a_kept m_undos m_images a_from a_begin a_motor a_change a_startFrame a_changeFrame a_lostAt a_blackAt a_slips a_leftArc a_died a_arcs m_bestSum m_nearest m_nearestTown a_there a_backAt a_sorted a_parts m_seed1 m_darkNow)] [(cAI g a_r 311 d_r), (cAI g a_st 44 d_st), (cAI g a_from 8 d_from), (cAI g a_begin 8 d_begin), (cAI g a_motor 8 d_motor), (cAI g a_change 8 d_change), (cAI g a_startFrame 8 d_startFrame), (cAI g a_changeFrame 8 d_changeFrame), (cAI g a_lostAt 8 d_lostAt), (cAI g a_blackAt 8 d_blackAt), (cAI g a_slips 8 d_slips), (cAI g a_leftArc 8 d_leftArc), (cAI g a_died 8 d_died), (cAI g a_arcs 2 d_arcs)] [0] [1, 2, 3, 4, 5, 6, 7, 8, 9, 10, 11, 12, 13, 14] (m_good l g h0 m_thrown a_tape m_taped m_size m_at m_end m_token m_whole m_nameSize m_fault m_place m_trouble a_letters m_failed m_hasHouse a_r a_fresh a_st a_undone a_kept m_undos m_images a_from a_begin a_motor a_change a_startFrame a_changeFrame a_lostAt a_blackAt a_slips a_leftArc a_died a_arcs m_bestSum m_nearest m_nearestTown a_there a_backAt a_sorted a_parts m_seed1 m_darkNow) dX11_dies_1 mw477 mw478 mw479 mw5 mw480 rfl 11 rfl rfl 0 _ rfl yk_yX11_good_0 rfl (Nat.le_of_ble_eq_true rfl) (Nat.le_of_ble_eq_true rfl) (Nat.le_of_ble_eq_true rfl) (Nat.le_of_ble_eq_true rfl) (Nat.le_of_ble_eq_true rfl) rfl rfl (by decide +kernel) rfl (by decide +kernel) (by decide +kernel) ?_
  rintro w ⟨m_thrown2_1, m_trouble2_2, rfl⟩
  refine k_ws [(cAI g a_r 311 d_r), (cAI g a_st 44 d_st), (cAI g a_from 8 d_from), (cAI g a_begin 8 d_begin), (cAI g a_motor 8 d_motor), (cAI g a_change 8 d_change), (cAI g a_startFrame 8 d_startFrame), (cAI g a_changeFrame 8 d_changeFrame), (cAI g a_lostAt 8 d_lostAt), (cAI g a_blackAt 8 d_blackAt), (cAI g a_slips 8 d_slips), (cAI g a_leftArc 8 d_leftArc), (cAI g a_died 8 d_died), (cAI g a_arcs 2 d_arcs), (cO11_i1r1i10r1i2r5i2r12i3r4i2 h0 m_thrown2_1 a_tape m_taped m_size m_at m_end m_token m_whole m_nameSize m_fault m_place m_trouble2_2 a_letters m_failed m_hasHouse a_r a_fresh a_st a_undone a_kept m_undos m_images a_from a_begin a_motor a_change a_startFrame a_changeFrame a_lostAt a_blackAt a_slips a_leftArc a_died a_arcs m_bestSum m_nearest m_nearestTown a_there a_backAt a_sorted a_parts m_seed1 m_darkNow)] rfl ?_
  refine k_aload_n X dX11_dies_4 0 rfl ?_
  refine k_iload_n X dX11_dies_5 1 rfl ?_
  refine k_iload_n X dX11_dies_6 2 rfl ?_
  refine k_callVI (n := 2) (As := [.int p0, .int p1]) (st := []) X [(cO11_i1r1i10r1i2r5i2r12i3r4i2 h0 m_thrown2_1 a_tape m_taped m_size m_at m_end m_token m_whole m_nameSize m_fault m_place m_trouble2_2 a_letters m_failed m_hasHouse a_r a_fresh a_st a_undone a_kept m_undos m_images a_from a_begin a_motor a_change a_startFrame a_changeFrame a_lostAt a_blackAt a_slips a_leftArc a_died a_arcs m_bestSum m_nearest m_nearestTown a_there a_backAt a_sorted a_parts m_seed1 m_darkNow), (cAI g a_r 311 d_r), (cAI g a_st 44 d_st), (cAI g a_from 8 d_from), (cAI g a_begin 8 d_begin), (cAI g a_motor 8 d_motor), (cAI g a_change 8 d_change), (cAI g a_startFrame 8 d_startFrame), (cAI g a_changeFrame 8 d_changeFrame), (cAI g a_lostAt 8 d_lostAt), (cAI g a_blackAt 8 d_blackAt), (cAI g a_slips 8 d_slips)] [(cAI g a_leftArc 8 d_leftArc), (cAI g a_died 8 d_died), (cAI g a_arcs 2 d_arcs)] [14, 0, 1, 2, 3, 4, 5, 6, 7, 8, 9, 10] [11, 12, 13] (m_canTell l g h0 p0 p1 m_thrown2_1 a_tape m_taped m_size m_at m_end m_token m_whole m_nameSize m_fault m_place m_trouble2_2 a_letters m_failed m_hasHouse a_r a_fresh a_st a_undone a_kept m_undos m_images a_from a_begin a_motor a_change a_startFrame a_changeFrame a_lostAt a_blackAt a_slips a_leftArc a_died a_arcs m_bestSum m_nearest m_nearestTown a_there a_backAt a_sorted a_parts m_seed1 m_darkNow d_r d_st d_from d_begin d_motor d_change d_startFrame d_changeFrame d_lostAt d_blackAt d_slips (iv_w hv_m_hasHouse (by decide) (by decide)) hp_d_r) dX11_dies_7 mw807 mw808 mw809 mw5 mw810 rfl 11 rfl rfl 0 _ rfl yk_yX11_canTell_2 rfl (Nat.le_of_ble_eq_true rfl) (Nat.le_of_ble_eq_true rfl) (Nat.le_of_ble_eq_true rfl) (Nat.le_of_ble_eq_true rfl) (Nat.le_of_ble_eq_true rfl) rfl rfl (by decide +kernel) rfl (by decide +kernel) (by decide +kernel) ?_
  intro r_13 w zq
  refine exE9 zq ?_
  clear zq
  intro d_begin2_4 d_blackAt2_5 d_change2_6 d_changeFrame2_7 d_from2_8 d_lostAt2_9 d_motor2_10 d_slips2_11 d_startFrame2_12 iv_14 zq
  refine exA1 zq ?_
  clear zq
  intro hk_15 zq
  subst zq
  refine k_ws [(cAI g a_leftArc 8 d_leftArc), (cAI g a_died 8 d_died), (cAI g a_arcs 2 d_arcs), (cO11_i1r1i10r1i2r5i2r12i3r4i2 h0 m_thrown2_1 a_tape m_taped m_size m_at m_end m_token m_whole m_nameSize m_fault m_place m_trouble2_2 a_letters m_failed m_hasHouse a_r a_fresh a_st a_undone a_kept m_undos m_images a_from a_begin a_motor a_change a_startFrame a_changeFrame a_lostAt a_blackAt a_slips a_leftArc a_died a_arcs m_bestSum m_nearest m_nearestTown a_there a_backAt a_sorted a_parts m_seed1 m_darkNow), (cAI g a_r 311 d_r), (cAI g a_st 44 d_st), (cAI g a_from 8 d_from2_8), (cAI g a_begin 8 d_begin2_4), (cAI g a_motor 8 d_motor2_10), (cAI g a_change 8 d_change2_6), (cAI g a_startFrame 8 d_startFrame2_12), (cAI g a_changeFrame 8 d_changeFrame2_7), (cAI g a_lostAt 8 d_lostAt2_9), (cAI g a_blackAt 8 d_blackAt2_5), (cAI g a_slips 8 d_slips2_11)] rfl ?_
  refine k_if_ne 19 X dX11_dies_10 (by decide) (fun h_16 => ?_) (fun h_16 => ?_)
  · skip
    have hc_17 := hk_15.resolve_left h_16
    have iv_18 : IV p0 0 3 := iv_meet (iv_any p0) hc_17.1 (by decide) (by decide)
    have iv_19 : IV p1 0 7 := iv_meet (iv_any p1) hc_17.2.1 (by decide) (by decide)
    have j_20 : p1.toInt < (d_r 12).toInt := hc_17.2.2
    have iv_21 : IV r_13 1 1 := iv_neL h_16 iv_14 (show IV 0 0 0 from (by decide)) (by decide)
    refine k_aload_n X dX11_dies_19 0 rfl ?_
    refine k_aload_n X dX11_dies_20 0 rfl ?_
    refine k_get (ci := 11) X inlX11 rfl 17 (by decide) dX11_dies_21 mw172 3 rfl rfl ?_
    refine k_bipush (v := 42) X dX11_dies_24 (by decide) ?_
    refine k_iald X dX11_dies_26 5 rfl (by unfold vp_in; decide) ?_
    refine k_nm (fun z_22 ez_22 => ?_)
    refine k_callVI (n := 1) (As := [.int z_22]) (st := []) X [(cO11_i1r1i10r1i2r5i2r12i3r4i2 h0 m_thrown2_1 a_tape m_taped m_size m_at m_end m_token m_whole m_nameSize m_fault m_place m_trouble2_2 a_letters m_failed m_hasHouse a_r a_fresh a_st a_undone a_kept m_undos m_images a_from a_begin a_motor a_change a_startFrame a_changeFrame a_lostAt a_blackAt a_slips a_leftArc a_died a_arcs m_bestSum m_nearest m_nearestTown a_there a_backAt a_sorted a_parts m_seed1 m_darkNow), (cAI g a_r 311 d_r), (cAI g a_motor 8 d_motor2_10), (cAI g a_change 8 d_change2_6), (cAI g a_leftArc 8 d_leftArc), (cAI g a_died 8 d_died), (cAI g a_arcs 2 d_arcs)] [(cAI g a_st 44 d_st), (cAI g a_from 8 d_from2_8), (cAI g a_begin 8 d_begin2_4), (cAI g a_startFrame 8 d_startFrame2_12), (cAI g a_changeFrame 8 d_changeFrame2_7), (cAI g a_lostAt 8 d_lostAt2_9), (cAI g a_blackAt 8 d_blackAt2_5), (cAI g a_slips 8 d_slips2_11)] [3, 4, 8, 9, 0, 1, 2] [5, 6, 7, 10, 11, 12, 13, 14] (m_burn l g h0 z_22 m_thrown2_1 a_tape m_taped m_size m_at m_end m_token m_whole m_nameSize m_fault m_place m_trouble2_2 a_letters m_failed m_hasHouse a_r a_fresh a_st a_undone a_kept m_undos m_images a_from a_begin a_motor a_change a_startFrame a_changeFrame a_lostAt a_blackAt a_slips a_leftArc a_died a_arcs m_bestSum m_nearest m_nearestTown a_there a_backAt a_sorted a_parts m_seed1 m_darkNow d_r d_motor2_10 d_change2_6 d_leftArc d_died d_arcs hp_d_r) dX11_dies_27 mw1050 mw1051 mw1052 mw5 mw1053 rfl 11 rfl rfl 0 _ rfl yk_yX11_burn_1 rfl (Nat.le_of_ble_eq_true rfl) (Nat.le_of_ble_eq_true rfl) (Nat.le_of_ble_eq_true rfl) (Nat.le_of_ble_eq_true rfl) (Nat.le_of_ble_eq_true rfl) rfl rfl (by decide +kernel) rfl (by decide +kernel) (by decide +kernel) ?_
    rintro r_26 w ⟨d_arcs2_23, d_died2_24, d_leftArc2_25, iv_27, rfl⟩
    refine k_ws [(cAI g a_st 44 d_st), (cAI g a_from 8 d_from2_8), (cAI g a_begin 8 d_begin2_4), (cAI g a_startFrame 8 d_startFrame2_12), (cAI g a_changeFrame 8 d_changeFrame2_7), (cAI g a_lostAt 8 d_lostAt2_9), (cAI g a_blackAt 8 d_blackAt2_5), (cAI g a_slips 8 d_slips2_11), (cO11_i1r1i10r1i2r5i2r12i3r4i2 h0 m_thrown2_1 a_tape m_taped m_size m_at m_end m_token m_whole m_nameSize m_fault m_place m_trouble2_2 a_letters m_failed m_hasHouse a_r a_fresh a_st a_undone a_kept m_undos m_images a_from a_begin a_motor a_change a_startFrame a_changeFrame a_lostAt a_blackAt a_slips a_leftArc a_died a_arcs m_bestSum m_nearest m_nearestTown a_there a_backAt a_sorted a_parts m_seed1 m_darkNow), (cAI g a_r 311 d_r), (cAI g a_motor 8 d_motor2_10), (cAI g a_change 8 d_change2_6), (cAI g a_leftArc 8 d_leftArc2_25), (cAI g a_died 8 d_died2_24), (cAI g a_arcs 2 d_arcs2_23)] rfl ?_
    refine k_pop X dX11_dies_30 rfl ?_
    refine k_aload_n X dX11_dies_31 0 rfl ?_
    refine k_get (ci := 11) X inlX11 rfl 32 (by decide) dX11_dies_32 mw185 8 rfl rfl ?_
    refine k_iload_n X dX11_dies_35 2 rfl ?_
    refine k_iald X dX11_dies_36 13 rfl (iv_in iv_19 (by decide) (by decide)) ?_
    refine k_nm (fun z_28 ez_28 => ?_)
    exact k_iret X hr dX11_dies_37 (Nat.le_of_ble_eq_true rfl) (Nat.le_of_ble_eq_true rfl) [8, 9, 0, 1, 2, 10, 11, 3, 4, 5, 6, 7, 12, 13, 14] (by decide) rfl rfl ⟨d_arcs2_23, d_begin2_4, d_blackAt2_5, d_change2_6, d_changeFrame2_7, d_died2_24, d_from2_8, d_leftArc2_25, d_lostAt2_9, d_motor2_10, d_slips2_11, d_startFrame2_12, m_thrown2_1, m_trouble2_2, rfl⟩
  · skip
    have iv_29 : IV r_13 0 0 := iv_meet iv_14 (iv_e h_16 (show IV 0 0 0 from (by decide))) (by decide) (by decide)
    refine k_aload_n X dX11_dies_13 0 rfl ?_
    refine k_iconst (v := 1) X dX11_dies_14 (by decide) ?_
    refine k_callVI (n := 1) (As := [.int 1]) (st := []) X [(cO11_i1r1i10r1i2r5i2r12i3r4i2 h0 m_thrown2_1 a_tape m_taped m_size m_at m_end m_token m_whole m_nameSize m_fault m_place m_trouble2_2 a_letters m_failed m_hasHouse a_r a_fresh a_st a_undone a_kept m_undos m_images a_from a_begin a_motor a_change a_startFrame a_changeFrame a_lostAt a_blackAt a_slips a_leftArc a_died a_arcs m_bestSum m_nearest m_nearestTown a_there a_backAt a_sorted a_parts m_seed1 m_darkNow)] [(cAI g a_leftArc 8 d_leftArc), (cAI g a_died 8 d_died), (cAI g a_arcs 2 d_arcs), (cAI g a_r 311 d_r), (cAI g a_st 44 d_st), (cAI g a_from 8 d_from2_8), (cAI g a_begin 8 d_begin2_4), (cAI g a_motor 8 d_motor2_10), (cAI g a_change 8 d_change2_6), (cAI g a_startFrame 8 d_startFrame2_12), (cAI g a_changeFrame 8 d_changeFrame2_7), (cAI g a_lostAt 8 d_lostAt2_9), (cAI g a_blackAt 8 d_blackAt2_5), (cAI g a_slips 8 d_slips2_11)] [3] [0, 1, 2, 4, 5, 6, 7, 8, 9, 10, 11, 12, 13, 14] (m_no l g h0 1 m_thrown2_1 a_tape m_taped m_size m_at m_end m_token m_whole m_nameSize m_fault m_place m_trouble2_2 a_letters m_failed m_hasHouse a_r a_fresh a_st a_undone a_kept m_undos m_images a_from a_begin a_motor a_change a_startFrame a_changeFrame a_lostAt a_blackAt a_slips a_leftArc a_died a_arcs m_bestSum m_nearest m_nearestTown a_there a_backAt a_sorted a_parts m_seed1 m_darkNow) dX11_dies_15 mw485 mw486 mw487 mw5 mw488 rfl 11 rfl rfl 0 _ rfl yk_yX11_no_1 rfl (Nat.le_of_ble_eq_true rfl) (Nat.le_of_ble_eq_true rfl) (Nat.le_of_ble_eq_true rfl) (Nat.le_of_ble_eq_true rfl) (Nat.le_of_ble_eq_true rfl) rfl rfl (by decide +kernel) rfl (by decide +kernel) (by decide +kernel) ?_
    rintro r_31 w ⟨m_trouble2_30, iv_32, rfl⟩
    refine k_ws [(cAI g a_leftArc 8 d_leftArc), (cAI g a_died 8 d_died), (cAI g a_arcs 2 d_arcs), (cAI g a_r 311 d_r), (cAI g a_st 44 d_st), (cAI g a_from 8 d_from2_8), (cAI g a_begin 8 d_begin2_4), (cAI g a_motor 8 d_motor2_10), (cAI g a_change 8 d_change2_6), (cAI g a_startFrame 8 d_startFrame2_12), (cAI g a_changeFrame 8 d_changeFrame2_7), (cAI g a_lostAt 8 d_lostAt2_9), (cAI g a_blackAt 8 d_blackAt2_5), (cAI g a_slips 8 d_slips2_11), (cO11_i1r1i10r1i2r5i2r12i3r4i2 h0 m_thrown2_1 a_tape m_taped m_size m_at m_end m_token m_whole m_nameSize m_fault m_place m_trouble2_30 a_letters m_failed m_hasHouse a_r a_fresh a_st a_undone a_kept m_undos m_images a_from a_begin a_motor a_change a_startFrame a_changeFrame a_lostAt a_blackAt a_slips a_leftArc a_died a_arcs m_bestSum m_nearest m_nearestTown a_there a_backAt a_sorted a_parts m_seed1 m_darkNow)] rfl ?_
    exact k_iret X hr dX11_dies_18 (Nat.le_of_ble_eq_true rfl) (Nat.le_of_ble_eq_true rfl) [14, 3, 4, 5, 6, 7, 8, 9, 10, 11, 12, 13, 0, 1, 2] (by decide) rfl rfl ⟨d_arcs, d_begin2_4, d_blackAt2_5, d_change2_6, d_changeFrame2_7, d_died, d_from2_8, d_leftArc, d_lostAt2_9, d_motor2_10, d_slips2_11, d_startFrame2_12, m_thrown2_1, m_trouble2_30, rfl⟩

theorem dX11_firstDies_0 : decode cX11_firstDies 0 = .ok (.aload_n 0, 1) := dk_42 rfl
theorem dX11_firstDies_1 : decode cX11_firstDies 1 = .ok (.invokevirtual 200, 3) := dk_182 rfl rfl rfl rfl
theorem dX11_firstDies_4 : decode cX11_firstDies 4 = .ok (.aload_n 0, 1) := dk_42 rfl
theorem dX11_firstDies_5 : decode cX11_firstDies 5 = .ok (.iload_n 1, 1) := dk_27 rfl
theorem dX11_firstDies_6 : decode cX11_firstDies 6 = .ok (.iconst 0, 1) := dk_3 rfl
theorem dX11_firstDies_7 : decode cX11_firstDies 7 = .ok (.invokevirtual 376, 3) := dk_182 rfl rfl rfl rfl
theorem dX11_firstDies_10 : decode cX11_firstDies 10 = .ok (.ifCond .ne 9, 3) := dk_154 rfl rfl rfl (by decide)
theorem dX11_firstDies_13 : decode cX11_firstDies 13 = .ok (.aload_n 0, 1) := dk_42 rfl
theorem dX11_firstDies_14 : decode cX11_firstDies 14 = .ok (.iconst 1, 1) := dk_4 rfl
theorem dX11_firstDies_15 : decode cX11_firstDies 15 = .ok (.invokevirtual 203, 3) := dk_182 rfl rfl rfl rfl
theorem dX11_firstDies_18 : decode cX11_firstDies 18 = .ok (.ireturn, 1) := dk_172 rfl
theorem dX11_firstDies_19 : decode cX11_firstDies 19 = .ok (.aload_n 0, 1) := dk_42 rfl
theorem dX11_firstDies_20 : decode cX11_firstDies 20 = .ok (.aload_n 0, 1) := dk_42 rfl
theorem dX11_firstDies_21 : decode cX11_firstDies 21 = .ok (.getfield 26, 3) := dk_180 rfl rfl rfl rfl
theorem dX11_firstDies_24 : decode cX11_firstDies 24 = .ok (.bipush 42, 2) := dk_16 rfl rfl (by decide)
theorem dX11_firstDies_26 : decode cX11_firstDies 26 = .ok (.iaload, 1) := dk_46 rfl
theorem dX11_firstDies_27 : decode cX11_firstDies 27 = .ok (.invokevirtual 391, 3) := dk_182 rfl rfl rfl rfl
theorem dX11_firstDies_30 : decode cX11_firstDies 30 = .ok (.pop, 1) := dk_87 rfl
theorem dX11_firstDies_31 : decode cX11_firstDies 31 = .ok (.iconst 0, 1) := dk_3 rfl
theorem dX11_firstDies_32 : decode cX11_firstDies 32 = .ok (.istore_n 2, 1) := dk_61 rfl
theorem dX11_firstDies_33 : decode cX11_firstDies 33 = .ok (.iload_n 2, 1) := dk_28 rfl
theorem dX11_firstDies_34 : decode cX11_firstDies 34 = .ok (.aload_n 0, 1) := dk_42 rfl
theorem dX11_firstDies_35 : decode cX11_firstDies 35 = .ok (.getfield 20, 3) := dk_180 rfl rfl rfl rfl
theorem dX11_firstDies_38 : decode cX11_firstDies 38 = .ok (.bipush 12, 2) := dk_16 rfl rfl (by decide)
theorem dX11_firstDies_40 : decode cX11_firstDies 40 = .ok (.iaload, 1) := dk_46 rfl
theorem dX11_firstDies_41 : decode cX11_firstDies 41 = .ok (.if_icmp .ge 21, 3) := dk_162 rfl rfl rfl (by decide)
theorem dX11_firstDies_44 : decode cX11_firstDies 44 = .ok (.aload_n 0, 1) := dk_42 rfl
theorem dX11_firstDies_45 : decode cX11_firstDies 45 = .ok (.getfield 65, 3) := dk_180 rfl rfl rfl rfl
theorem dX11_firstDies_48 : decode cX11_firstDies 48 = .ok (.iload_n 2, 1) := dk_28 rfl
theorem dX11_firstDies_49 : decode cX11_firstDies 49 = .ok (.iaload, 1) := dk_46 rfl
theorem dX11_firstDies_50 : decode cX11_firstDies 50 = .ok (.iconst 1, 1) := dk_4 rfl
theorem dX11_firstDies_51 : decode cX11_firstDies 51 = .ok (.if_icmp .ne 5, 3) := dk_160 rfl rfl rfl (by decide)
theorem dX11_firstDies_54 : decode cX11_firstDies 54 = .ok (.iload_n 2, 1) := dk_28 rfl
theorem dX11_firstDies_55 : decode cX11_firstDies 55 = .ok (.ireturn, 1) := dk_172 rfl
theorem dX11_firstDies_56 : decode cX11_firstDies 56 = .ok (.iinc 2 1, 3) := dk_132 rfl rfl rfl rfl (by decide)
theorem dX11_firstDies_59 : decode cX11_firstDies 59 = .ok (.goto (-26), 3) := dk_167 rfl rfl rfl (by decide)
theorem dX11_firstDies_62 : decode cX11_firstDies 62 = .ok (.bipush (-2), 2) := dk_16 rfl rfl (by decide)
theorem dX11_firstDies_64 : decode cX11_firstDies 64 = .ok (.ireturn, 1) := dk_172 rfl
set_option maxHeartbeats 4000000 in
set_option maxRecDepth 100000 in
theorem m_firstDies (l : Launch) (g : Gx) (h0 : Nat) (p0 : Int32) (m_thrown : Int32) (a_tape : Nat) (m_taped : Int32) (m_size : Int32) (m_at : Int32) (m_end : Int32) (m_token : Int32) (m_whole : Int32) (m_nameSize : Int32) (m_fault : Int32) (m_place : Int32) (m_trouble : Int32) (a_letters : Nat) (m_failed : Int32) (m_hasHouse : Int32) (a_r : Nat) (a_fresh : Nat) (a_st : Nat) (a_undone : Nat) (a_kept : Nat) (m_undos : Int32) (m_images : Int32) (a_from : Nat) (a_begin : Nat) (a_motor : Nat) (a_change : Nat) (a_startFrame : Nat) (a_changeFrame : Nat) (a_lostAt : Nat) (a_blackAt : Nat) (a_slips : Nat) (a_leftArc : Nat) (a_died : Nat) (a_arcs : Nat) (m_bestSum : Int32) (m_nearest : Int32) (m_nearestTown : Int32) (a_there : Nat) (a_backAt : Nat) (a_sorted : Nat) (a_parts : Nat) (m_seed1 : Int32) (m_darkNow : Int32) (d_r : Nat → Int32) (d_st : Nat → Int32) (d_from : Nat → Int32) (d_begin : Nat → Int32) (d_motor : Nat → Int32) (d_change : Nat → Int32) (d_startFrame : Nat → Int32) (d_changeFrame : Nat → Int32) (d_lostAt : Nat → Int32) (d_blackAt : Nat → Int32) (d_slips : Nat → Int32) (d_leftArc : Nat → Int32) (d_died : Nat → Int32) (d_arcs : Nat → Int32) (hv_m_hasHouse : IV m_hasHouse 0 1) (hp_d_r : RInv d_r) : cI l g yX11_firstDies cX11_firstDies 3 (some .int) 6 132 0 0 [.ref h0, .int p0] [(cO11_i1r1i10r1i2r5i2r12i3r4i2 h0 m_thrown a_tape m_taped m_size m_at m_end m_token m_whole m_nameSize m_fault m_place m_trouble a_letters m_failed m_hasHouse a_r a_fresh a_st a_undone a_kept m_undos m_images a_from a_begin a_motor a_change a_startFrame a_changeFrame a_lostAt a_blackAt a_slips a_leftArc a_died a_arcs m_bestSum m_nearest m_nearestTown a_there a_backAt a_sorted a_parts m_seed1 m_darkNow), (cAI g a_r 311 d_r), (cAI g a_st 44 d_st), (cAI g a_from 8 d_from), (cAI g a_begin 8 d_begin), (cAI g a_motor 8 d_motor), (cAI g a_change 8 d_change), (cAI g a_startFrame 8 d_startFrame), (cAI g a_changeFrame 8 d_changeFrame), (cAI g a_lostAt 8 d_lostAt), (cAI g a_blackAt 8 d_blackAt), (cAI g a_slips 8 d_slips), (cAI g a_leftArc 8 d_leftArc), (cAI g a_died 8 d_died), (cAI g a_arcs 2 d_arcs)] (fun r w => ∃ (d_arcs2 : Nat → Int32) (d_begin2 : Nat → Int32) (d_blackAt2 : Nat → Int32) (d_change2 : Nat → Int32) (d_changeFrame2 : Nat → Int32) (d_died2 : Nat → Int32) (d_from2 : Nat → Int32) (d_leftArc2 : Nat → Int32) (d_lostAt2 : Nat → Int32) (d_motor2 : Nat → Int32) (d_slips2 : Nat → Int32) (d_startFrame2 : Nat → Int32) (m_thrown2 : Int32) (m_trouble2 : Int32), w = [(cO11_i1r1i10r1i2r5i2r12i3r4i2 h0 m_thrown2 a_tape m_taped m_size m_at m_end m_token m_whole m_nameSize m_fault m_place m_trouble2 a_letters m_failed m_hasHouse a_r a_fresh a_st a_undone a_kept m_undos m_images a_from a_begin a_motor a_change a_startFrame a_changeFrame a_lostAt a_blackAt a_slips a_leftArc a_died a_arcs m_bestSum m_nearest m_nearestTown a_there a_backAt a_sorted a_parts m_seed1 m_darkNow), (cAI g a_r 311 d_r), (cAI g a_st 44 d_st), (cAI g a_from 8 d_from2), (cAI g a_begin 8 d_begin2), (cAI g a_motor 8 d_motor2), (cAI g a_change 8 d_change2), (cAI g a_startFrame 8 d_startFrame2), (cAI g a_changeFrame 8 d_changeFrame2), (cAI g a_lostAt 8 d_lostAt2), (cAI g a_blackAt 8 d_blackAt2), (cAI g a_slips 8 d_slips2), (cAI g a_leftArc 8 d_leftArc2), (cAI g a_died 8 d_died2), (cAI g a_arcs 2 d_arcs2)]) := by
  refine cI.of (by decide) (Nat.le_of_ble_eq_true rfl) ?_
  intro p e s m args below meth c A X hr hi
  refine k_lveq [(0, .ref h0), (1, .int p0)] rfl ?_
  refine k_aload_n X dX11_firstDies_0 0 rfl ?_
  refine k_callVV (n := 0) (As := []) (st := []) X [(cO11_i1r1i10r1i2r5i2r12i3r4i2 h0 m_thrown a_tape m_taped m_size m_at m_end m_token m_whole m_nameSize m_fault m_place m_trouble a_letters m_failed m_hasHouse a_r a_fresh a_st a_undone a_kept m_undos m_images a_from a_begin a_motor a_change a_startFrame a_changeFrame a_lostAt a_blackAt a_slips a_leftArc a_died a_arcs m_bestSum m_nearest m_nearestTown a_there a_backAt a_sorted a_parts m_seed1 m_darkNow)] [(cAI g a_r 311 d_r), (cAI g a_st 44 d_st), (cAI g a_from 8 d_from), (cAI g a_begin 8 d_begin), (cAI g a_motor 8 d_motor), (cAI g a_change 8 d_change), (cAI g a_startFrame 8 d_startFrame), (cAI g a_changeFrame 8 d_changeFrame), (cAI g a_lostAt 8 d_lostAt), (cAI g a_blackAt 8 d_blackAt), (cAI g a_slips 8 d_slips), (cAI g a_leftArc 8 d_leftArc), (cAI g a_died 8 d_died), (cAI g a_arcs 2 d_arcs)] [0] [1, 2, 3, 4, 5, 6, 7, 8, 9, 10, 11, 12, 13, 14] (m_good l g h0 m_thrown a_tape m_taped m_size m_at m_end m_token m_whole m_nameSize m_fault m_place m_trouble a_letters m_failed m_hasHouse a_r a_fresh a_st a_undone a_kept m_undos m_images a_from a_begin a_motor a_change a_startFrame a_changeFrame a_lostAt a_blackAt a_slips a_leftArc a_died a_arcs m_bestSum m_nearest m_nearestTown a_there a_backAt a_sorted a_parts m_seed1 m_darkNow) dX11_firstDies_1 mw477 mw478 mw479 mw5 mw480 rfl 11 rfl rfl 0 _ rfl yk_yX11_good_0 rfl (Nat.le_of_ble_eq_true rfl) (Nat.le_of_ble_eq_true rfl) (Nat.le_of_ble_eq_true rfl) (Nat.le_of_ble_eq_true rfl) (Nat.le_of_ble_eq_true rfl) rfl rfl (by decide +kernel) rfl (by decide +kernel) (by decide +kernel) ?_
  rintro w ⟨m_thrown2_1, m_trouble2_2, rfl⟩
  refine k_ws [(cAI g a_r 311 d_r), (cAI g a_st 44 d_st), (cAI g a_from 8 d_from), (cAI g a_begin 8 d_begin), (cAI g a_motor 8 d_motor), (cAI g a_change 8 d_change), (cAI g a_startFrame 8 d_startFrame), (cAI g a_changeFrame 8 d_changeFrame), (cAI g a_lostAt 8 d_lostAt), (cAI g a_blackAt 8 d_blackAt), (cAI g a_slips 8 d_slips), (cAI g a_leftArc 8 d_leftArc), (cAI g a_died 8 d_died), (cAI g a_arcs 2 d_arcs), (cO11_i1r1i10r1i2r5i2r12i3r4i2 h0 m_thrown2_1 a_tape m_taped m_size m_at m_end m_token m_whole m_nameSize m_fault m_place m_trouble2_2 a_letters m_failed m_hasHouse a_r a_fresh a_st a_undone a_kept m_undos m_images a_from a_begin a_motor a_change a_startFrame a_changeFrame a_lostAt a_blackAt a_slips a_leftArc a_died a_arcs m_bestSum m_nearest m_nearestTown a_there a_backAt a_sorted a_parts m_seed1 m_darkNow)] rfl ?_
  refine k_aload_n X dX11_firstDies_4 0 rfl ?_
  refine k_iload_n X dX11_firstDies_5 1 rfl ?_
  refine k_iconst (v := 0) X dX11_firstDies_6 (by decide) ?_
  refine k_callVI (n := 2) (As := [.int p0, .int 0]) (st := []) X [(cO11_i1r1i10r1i2r5i2r12i3r4i2 h0 m_thrown2_1 a_tape m_taped m_size m_at m_end m_token m_whole m_nameSize m_fault m_place m_trouble2_2 a_letters m_failed m_hasHouse a_r a_fresh a_st a_undone a_kept m_undos m_images a_from a_begin a_motor a_change a_startFrame a_changeFrame a_lostAt a_blackAt a_slips a_leftArc a_died a_arcs m_bestSum m_nearest m_nearestTown a_there a_backAt a_sorted a_parts m_seed1 m_darkNow), (cAI g a_r 311 d_r), (cAI g a_st 44 d_st), (cAI g a_from 8 d_from), (cAI g a_begin 8 d_begin), (cAI g a_motor 8 d_motor), (cAI g a_change 8 d_change), (cAI g a_startFrame 8 d_startFrame), (cAI g a_changeFrame 8 d_changeFrame), (cAI g a_lostAt 8 d_lostAt), (cAI g a_blackAt 8 d_blackAt), (cAI g a_slips 8 d_slips)] [(cAI g a_leftArc 8 d_leftArc), (cAI g a_died 8 d_died), (cAI g a_arcs 2 d_arcs)] [14, 0, 1, 2, 3, 4, 5, 6, 7, 8, 9, 10] [11, 12, 13] (m_canTell l g h0 p0 0 m_thrown2_1 a_tape m_taped m_size m_at m_end m_token m_whole m_nameSize m_fault m_place m_trouble2_2 a_letters m_failed m_hasHouse a_r a_fresh a_st a_undone a_kept m_undos m_images a_from a_begin a_motor a_change a_startFrame a_changeFrame a_lostAt a_blackAt a_slips a_leftArc a_died a_arcs m_bestSum m_nearest m_nearestTown a_there a_backAt a_sorted a_parts m_seed1 m_darkNow d_r d_st d_from d_begin d_motor d_change d_startFrame d_changeFrame d_lostAt d_blackAt d_slips (iv_w hv_m_hasHouse (by decide) (by decide)) hp_d_r) dX11_firstDies_7 mw807 mw808 mw809 mw5 mw810 rfl 11 rfl rfl 0 _ rfl yk_yX11_canTell_2 rfl (Nat.le_of_ble_eq_true rfl) (Nat.le_of_ble_eq_true rfl) (Nat.le_of_ble_eq_true rfl) (Nat.le_of_ble_eq_true rfl) (Nat.le_of_ble_eq_true rfl) rfl rfl (by decide +kernel) rfl (by decide +kernel) (by decide +kernel) ?_
  intro r_13 w zq
  refine exE9 zq ?_
  clear zq
  intro d_begin2_4 d_blackAt2_5 d_change2_6 d_changeFrame2_7 d_from2_8 d_lostAt2_9 d_motor2_10 d_slips2_11 d_startFrame2_12 iv_14 zq
  refine exA1 zq ?_
  clear zq
  intro hk_15 zq
  subst zq
  refine k_ws [(cAI g a_leftArc 8 d_leftArc), (cAI g a_died 8 d_died), (cAI g a_arcs 2 d_arcs), (cO11_i1r1i10r1i2r5i2r12i3r4i2 h0 m_thrown2_1 a_tape m_taped m_size m_at m_end m_token m_whole m_nameSize m_fault m_place m_trouble2_2 a_letters m_failed m_hasHouse a_r a_fresh a_st a_undone a_kept m_undos m_images a_from a_begin a_motor a_change a_startFrame a_changeFrame a_lostAt a_blackAt a_slips a_leftArc a_died a_arcs m_bestSum m_nearest m_nearestTown a_there a_backAt a_sorted a_parts m_seed1 m_darkNow), (cAI g a_r 311 d_r), (cAI g a_st 44 d_st), (cAI g a_from 8 d_from2_8), (cAI g a_begin 8 d_begin2_4), (cAI g a_motor 8 d_motor2_10), (cAI g a_change 8 d_change2_6), (cAI g a_startFrame 8 d_startFrame2_12), (cAI g a_changeFrame 8 d_changeFrame2_7), (cAI g a_lostAt 8 d_lostAt2_9), (cAI g a_blackAt 8 d_blackAt2_5), (cAI g a_slips 8 d_slips2_11)] rfl ?_
  refine k_if_ne 19 X dX11_firstDies_10 (by decide) (fun h_16 => ?_) (fun h_16 => ?_)
  · skip
    have hc_17 := hk_15.resolve_left h_16
    have iv_18 : IV p0 0 3 := iv_meet (iv_any p0) hc_17.1 (by decide) (by decide)
    have j_19 : 0 < (d_r 12).toInt := hc_17.2.2
    have iv_20 : IV r_13 1 1 := iv_neL h_16 iv_14 (show IV 0 0 0 from (by decide)) (by decide)
    refine k_aload_n X dX11_firstDies_19 0 rfl ?_
    refine k_aload_n X dX11_firstDies_20 0 rfl ?_
    refine k_get (ci := 11) X inlX11 rfl 17 (by decide) dX11_firstDies_21 mw172 3 rfl rfl ?_
    refine k_bipush (v := 42) X dX11_firstDies_24 (by decide) ?_
    refine k_iald X dX11_firstDies_26 5 rfl (by unfold vp_in; decide) ?_
    refine k_nm (fun z_21 ez_21 => ?_)
    refine k_callVI (n := 1) (As := [.int z_21]) (st := []) X [(cO11_i1r1i10r1i2r5i2r12i3r4i2 h0 m_thrown2_1 a_tape m_taped m_size m_at m_end m_token m_whole m_nameSize m_fault m_place m_trouble2_2 a_letters m_failed m_hasHouse a_r a_fresh a_st a_undone a_kept m_undos m_images a_from a_begin a_motor a_change a_startFrame a_changeFrame a_lostAt a_blackAt a_slips a_leftArc a_died a_arcs m_bestSum m_nearest m_nearestTown a_there a_backAt a_sorted a_parts m_seed1 m_darkNow), (cAI g a_r 311 d_r), (cAI g a_motor 8 d_motor2_10), (cAI g a_change 8 d_change2_6), (cAI g a_leftArc 8 d_leftArc), (cAI g a_died 8 d_died), (cAI g a_arcs 2 d_arcs)] [(cAI g a_st 44 d_st), (cAI g a_from 8 d_from2_8), (cAI g a_begin 8 d_begin2_4), (cAI g a_startFrame 8 d_startFrame2_12), (cAI g a_changeFrame 8 d_changeFrame2_7), (cAI g a_lostAt 8 d_lostAt2_9), (cAI g a_blackAt 8 d_blackAt2_5), (cAI g a_slips 8 d_slips2_11)] [3, 4, 8, 9, 0, 1, 2] [5, 6, 7, 10, 11, 12, 13, 14] (m_burn l g h0 z_21 m_thrown2_1 a_tape m_taped m_size m_at m_end m_token m_whole m_nameSize m_fault m_place m_trouble2_2 a_letters m_failed m_hasHouse a_r a_fresh a_st a_undone a_kept m_undos m_images a_from a_begin a_motor a_change a_startFrame a_changeFrame a_lostAt a_blackAt a_slips a_leftArc a_died a_arcs m_bestSum m_nearest m_nearestTown a_there a_backAt a_sorted a_parts m_seed1 m_darkNow d_r d_motor2_10 d_change2_6 d_leftArc d_died d_arcs hp_d_r) dX11_firstDies_27 mw1050 mw1051 mw1052 mw5 mw1053 rfl 11 rfl rfl 0 _ rfl yk_yX11_burn_1 rfl (Nat.le_of_ble_eq_true rfl) (Nat.le_of_ble_eq_true rfl) (Nat.le_of_ble_eq_true rfl) (Nat.le_of_ble_eq_true rfl) (Nat.le_of_ble_eq_true rfl) rfl rfl (by decide +kernel) rfl (by decide +kernel) (by decide +kernel) ?_
    rintro r_25 w ⟨d_arcs2_22, d_died2_23, d_leftArc2_24, iv_26, rfl⟩
    refine k_ws [(cAI g a_st 44 d_st), (cAI g a_from 8 d_from2_8), (cAI g a_begin 8 d_begin2_4), (cAI g a_startFrame 8 d_startFrame2_12), (cAI g a_changeFrame 8 d_changeFrame2_7), (cAI g a_lostAt 8 d_lostAt2_9), (cAI g a_blackAt 8 d_blackAt2_5), (cAI g a_slips 8 d_slips2_11), (cO11_i1r1i10r1i2r5i2r12i3r4i2 h0 m_thrown2_1 a_tape m_taped m_size m_at m_end m_token m_whole m_nameSize m_fault m_place m_trouble2_2 a_letters m_failed m_hasHouse a_r a_fresh a_st a_undone a_kept m_undos m_images a_from a_begin a_motor a_change a_startFrame a_changeFrame a_lostAt a_blackAt a_slips a_leftArc a_died a_arcs m_bestSum m_nearest m_nearestTown a_there a_backAt a_sorted a_parts m_seed1 m_darkNow), (cAI g a_r 311 d_r), (cAI g a_motor 8 d_motor2_10), (cAI g a_change 8 d_change2_6), (cAI g a_leftArc 8 d_leftArc2_24), (cAI g a_died 8 d_died2_23), (cAI g a_arcs 2 d_arcs2_22)] rfl ?_
    refine k_pop X dX11_firstDies_30 rfl ?_
    refine k_iconst (v := 0) X dX11_firstDies_31 (by decide) ?_
    refine k_istore_n [(2, .int 0), (0, .ref h0), (1, .int p0)] X dX11_firstDies_32 (by decide) rfl ?_
    refine (fun hL : ∀ (nn_29 : Nat) (u_27 : Int32), (2147483647 - u_27.toInt).toNat = nn_29 → (IV u_27 0 8) → Wk p l e _ s m args below meth c _ A g _ _ _ [(cAI g a_st 44 d_st), (cAI g a_from 8 d_from2_8), (cAI g a_begin 8 d_begin2_4), (cAI g a_startFrame 8 d_startFrame2_12), (cAI g a_changeFrame 8 d_changeFrame2_7), (cAI g a_lostAt 8 d_lostAt2_9), (cAI g a_blackAt 8 d_blackAt2_5), (cAI g a_slips 8 d_slips2_11), (cO11_i1r1i10r1i2r5i2r12i3r4i2 h0 m_thrown2_1 a_tape m_taped m_size m_at m_end m_token m_whole m_nameSize m_fault m_place m_trouble2_2 a_letters m_failed m_hasHouse a_r a_fresh a_st a_undone a_kept m_undos m_images a_from a_begin a_motor a_change a_startFrame a_changeFrame a_lostAt a_blackAt a_slips a_leftArc a_died a_arcs m_bestSum m_nearest m_nearestTown a_there a_backAt a_sorted a_parts m_seed1 m_darkNow), (cAI g a_r 311 d_r), (cAI g a_motor 8 d_motor2_10), (cAI g a_change 8 d_change2_6), (cAI g a_leftArc 8 d_leftArc2_24), (cAI g a_died 8 d_died2_23), (cAI g a_arcs 2 d_arcs2_22)] [(2, .int u_27), (0, .ref h0), (1, .int p0)] 33 [] => hL _ 0 rfl (iv_w (show IV 0 0 0 from (by decide)) (by decide) (by decide))) ?_
    refine fun nn_29 => Nat.strongRecOn nn_29 (fun nn_29 ih_31 => ?_)
    intro u_27 hm_30 hv_28
    refine k_iload_n X dX11_firstDies_33 0 rfl ?_
    refine k_aload_n X dX11_firstDies_34 1 rfl ?_
    refine k_get (ci := 11) X inlX11 rfl 15 (by decide) dX11_firstDies_35 mw170 8 rfl rfl ?_
    refine k_bipush (v := 12) X dX11_firstDies_38 (by decide) ?_
    refine k_iald X dX11_firstDies_40 9 rfl (by unfold vp_in; decide) ?_
    refine k_nm (fun z_32 ez_32 => ?_)
    have i_33 : z_32.toInt = (d_r 12).toInt := by rw [ez_32]; rfl
    have iv_34 : IV z_32 0 8 := rb_12 ez_32 hp_d_r
    refine k_ic_ge 62 X dX11_firstDies_41 (by decide) (fun h_35 => ?_) (fun h_35 => ?_)
    · skip
      have j_36 : z_32.toInt ≤ u_27.toInt := iv_le h_35
      refine k_bipush (v := -2) X dX11_firstDies_62 (by decide) ?_
      exact k_iret X hr dX11_firstDies_64 (Nat.le_of_ble_eq_true rfl) (Nat.le_of_ble_eq_true rfl) [8, 9, 0, 1, 2, 10, 11, 3, 4, 5, 6, 7, 12, 13, 14] (by decide) rfl rfl ⟨d_arcs2_22, d_begin2_4, d_blackAt2_5, d_change2_6, d_changeFrame2_7, d_died2_23, d_from2_8, d_leftArc2_24, d_lostAt2_9, d_motor2_10, d_slips2_11, d_startFrame2_12, m_thrown2_1, m_trouble2_2, rfl⟩
    · skip
      have j_37 : u_27.toInt < z_32.toInt := iv_nle h_35
      have iv_38 : IV u_27 0 7 := iv_ltL (iv_nle h_35) hv_28 iv_34 (by decide)
      have iv_39 : IV z_32 1 8 := iv_ltR (iv_nle h_35) hv_28 iv_34 (by decide)
      refine k_aload_n X dX11_firstDies_44 1 rfl ?_
      refine k_get (ci := 11) X inlX11 rfl 32 (by decide) dX11_firstDies_45 mw185 8 rfl rfl ?_
      refine k_iload_n X dX11_firstDies_48 0 rfl ?_
      refine k_iald X dX11_firstDies_49 13 rfl (iv_in iv_38 (by decide) (by decide)) ?_
      refine k_nm (fun z_40 ez_40 => ?_)
      refine k_iconst (v := 1) X dX11_firstDies_50 (by decide) ?_
      refine k_ic_ne 56 X dX11_firstDies_51 (by decide) (fun h_41 => ?_) (fun h_41 => ?_)
      · skip
        obtain ⟨z_42, ez_42⟩ : ∃ y : Int32, u_27 + Int32.ofInt 1 = y := ⟨_, rfl⟩
        refine k_iinc z_42 [(2, .int z_42), (0, .ref h0), (1, .int p0)] 0 X dX11_firstDies_56 rfl ez_42 (by decide) rfl ?_
        have i_43 : z_42.toInt = u_27.toInt + 1 := in_inc ez_42 (by decide) iv_38 (by decide) (by decide)
        have iv_44 : IV z_42 1 8 := iz1 i_43 iv_38 (by decide) (by decide)
        refine k_goto 33 X dX11_firstDies_59 (by decide) ?_
        exact ih_31 _ (by omega) z_42 rfl (iv_w iv_44 (by decide) (by decide))
      · skip
        have iv_45 : IV z_40 1 1 := iv_meet (iv_any z_40) (iv_e h_41 (show IV 1 1 1 from (by decide))) (by decide) (by decide)
        refine k_iload_n X dX11_firstDies_54 0 rfl ?_
        exact k_iret X hr dX11_firstDies_55 (Nat.le_of_ble_eq_true rfl) (Nat.le_of_ble_eq_true rfl) [8, 9, 0, 1, 2, 10, 11, 3, 4, 5, 6, 7, 12, 13, 14] (by decide) rfl rfl ⟨d_arcs2_22, d_begin2_4, d_blackAt2_5, d_change2_6, d_changeFrame2_7, d_died2_23, d_from2_8, d_leftArc2_24, d_lostAt2_9, d_motor2_10, d_slips2_11, d_startFrame2_12, m_thrown2_1, m_trouble2_2, rfl⟩
  · skip
    have iv_46 : IV r_13 0 0 := iv_meet iv_14 (iv_e h_16 (show IV 0 0 0 from (by decide))) (by decide) (by decide)
    refine k_aload_n X dX11_firstDies_13 0 rfl ?_
    refine k_iconst (v := 1) X dX11_firstDies_14 (by decide) ?_
    refine k_callVI (n := 1) (As := [.int 1]) (st := []) X [(cO11_i1r1i10r1i2r5i2r12i3r4i2 h0 m_thrown2_1 a_tape m_taped m_size m_at m_end m_token m_whole m_nameSize m_fault m_place m_trouble2_2 a_letters m_failed m_hasHouse a_r a_fresh a_st a_undone a_kept m_undos m_images a_from a_begin a_motor a_change a_startFrame a_changeFrame a_lostAt a_blackAt a_slips a_leftArc a_died a_arcs m_bestSum m_nearest m_nearestTown a_there a_backAt a_sorted a_parts m_seed1 m_darkNow)] [(cAI g a_leftArc 8 d_leftArc), (cAI g a_died 8 d_died), (cAI g a_arcs 2 d_arcs), (cAI g a_r 311 d_r), (cAI g a_st 44 d_st), (cAI g a_from 8 d_from2_8), (cAI g a_begin 8 d_begin2_4), (cAI g a_motor 8 d_motor2_10), (cAI g a_change 8 d_change2_6), (cAI g a_startFrame 8 d_startFrame2_12), (cAI g a_changeFrame 8 d_changeFrame2_7), (cAI g a_lostAt 8 d_lostAt2_9), (cAI g a_blackAt 8 d_blackAt2_5), (cAI g a_slips 8 d_slips2_11)] [3] [0, 1, 2, 4, 5, 6, 7, 8, 9, 10, 11, 12, 13, 14] (m_no l g h0 1 m_thrown2_1 a_tape m_taped m_size m_at m_end m_token m_whole m_nameSize m_fault m_place m_trouble2_2 a_letters m_failed m_hasHouse a_r a_fresh a_st a_undone a_kept m_undos m_images a_from a_begin a_motor a_change a_startFrame a_changeFrame a_lostAt a_blackAt a_slips a_leftArc a_died a_arcs m_bestSum m_nearest m_nearestTown a_there a_backAt a_sorted a_parts m_seed1 m_darkNow) dX11_firstDies_15 mw485 mw486 mw487 mw5 mw488 rfl 11 rfl rfl 0 _ rfl yk_yX11_no_1 rfl (Nat.le_of_ble_eq_true rfl) (Nat.le_of_ble_eq_true rfl) (Nat.le_of_ble_eq_true rfl) (Nat.le_of_ble_eq_true rfl) (Nat.le_of_ble_eq_true rfl) rfl rfl (by decide +kernel) rfl (by decide +kernel) (by decide +kernel) ?_
    rintro r_48 w ⟨m_trouble2_47, iv_49, rfl⟩
    refine k_ws [(cAI g a_leftArc 8 d_leftArc), (cAI g a_died 8 d_died), (cAI g a_arcs 2 d_arcs), (cAI g a_r 311 d_r), (cAI g a_st 44 d_st), (cAI g a_from 8 d_from2_8), (cAI g a_begin 8 d_begin2_4), (cAI g a_motor 8 d_motor2_10), (cAI g a_change 8 d_change2_6), (cAI g a_startFrame 8 d_startFrame2_12), (cAI g a_changeFrame 8 d_changeFrame2_7), (cAI g a_lostAt 8 d_lostAt2_9), (cAI g a_blackAt 8 d_blackAt2_5), (cAI g a_slips 8 d_slips2_11), (cO11_i1r1i10r1i2r5i2r12i3r4i2 h0 m_thrown2_1 a_tape m_taped m_size m_at m_end m_token m_whole m_nameSize m_fault m_place m_trouble2_47 a_letters m_failed m_hasHouse a_r a_fresh a_st a_undone a_kept m_undos m_images a_from a_begin a_motor a_change a_startFrame a_changeFrame a_lostAt a_blackAt a_slips a_leftArc a_died a_arcs m_bestSum m_nearest m_nearestTown a_there a_backAt a_sorted a_parts m_seed1 m_darkNow)] rfl ?_
    exact k_iret X hr dX11_firstDies_18 (Nat.le_of_ble_eq_true rfl) (Nat.le_of_ble_eq_true rfl) [14, 3, 4, 5, 6, 7, 8, 9, 10, 11, 12, 13, 0, 1, 2] (by decide) rfl rfl ⟨d_arcs, d_begin2_4, d_blackAt2_5, d_change2_6, d_changeFrame2_7, d_died, d_from2_8, d_leftArc, d_lostAt2_9, d_motor2_10, d_slips2_11, d_startFrame2_12, m_thrown2_1, m_trouble2_47, rfl⟩

theorem dX11_arc_0 : decode cX11_arc 0 = .ok (.aload_n 0, 1) := dk_42 rfl
theorem dX11_arc_1 : decode cX11_arc 1 = .ok (.invokevirtual 200, 3) := dk_182 rfl rfl rfl rfl
theorem dX11_arc_4 : decode cX11_arc 4 = .ok (.aload_n 0, 1) := dk_42 rfl
theorem dX11_arc_5 : decode cX11_arc 5 = .ok (.iload_n 1, 1) := dk_27 rfl
theorem dX11_arc_6 : decode cX11_arc 6 = .ok (.iload_n 2, 1) := dk_28 rfl
theorem dX11_arc_7 : decode cX11_arc 7 = .ok (.invokevirtual 376, 3) := dk_182 rfl rfl rfl rfl
theorem dX11_arc_10 : decode cX11_arc 10 = .ok (.ifCond .ne 9, 3) := dk_154 rfl rfl rfl (by decide)
theorem dX11_arc_13 : decode cX11_arc 13 = .ok (.aload_n 0, 1) := dk_42 rfl
theorem dX11_arc_14 : decode cX11_arc 14 = .ok (.iconst 1, 1) := dk_4 rfl
theorem dX11_arc_15 : decode cX11_arc 15 = .ok (.invokevirtual 203, 3) := dk_182 rfl rfl rfl rfl
theorem dX11_arc_18 : decode cX11_arc 18 = .ok (.ireturn, 1) := dk_172 rfl
theorem dX11_arc_19 : decode cX11_arc 19 = .ok (.aload_n 0, 1) := dk_42 rfl
theorem dX11_arc_20 : decode cX11_arc 20 = .ok (.aload_n 0, 1) := dk_42 rfl
theorem dX11_arc_21 : decode cX11_arc 21 = .ok (.getfield 26, 3) := dk_180 rfl rfl rfl rfl
theorem dX11_arc_24 : decode cX11_arc 24 = .ok (.bipush 42, 2) := dk_16 rfl rfl (by decide)
theorem dX11_arc_26 : decode cX11_arc 26 = .ok (.iaload, 1) := dk_46 rfl
theorem dX11_arc_27 : decode cX11_arc 27 = .ok (.invokevirtual 391, 3) := dk_182 rfl rfl rfl rfl
theorem dX11_arc_30 : decode cX11_arc 30 = .ok (.pop, 1) := dk_87 rfl
theorem dX11_arc_31 : decode cX11_arc 31 = .ok (.aload_n 0, 1) := dk_42 rfl
theorem dX11_arc_32 : decode cX11_arc 32 = .ok (.getfield 62, 3) := dk_180 rfl rfl rfl rfl
theorem dX11_arc_35 : decode cX11_arc 35 = .ok (.iload_n 2, 1) := dk_28 rfl
theorem dX11_arc_36 : decode cX11_arc 36 = .ok (.iaload, 1) := dk_46 rfl
theorem dX11_arc_37 : decode cX11_arc 37 = .ok (.ireturn, 1) := dk_172 rfl
set_option maxHeartbeats 4000000 in
set_option maxRecDepth 100000 in
theorem m_arc (l : Launch) (g : Gx) (h0 : Nat) (p0 : Int32) (p1 : Int32) (m_thrown : Int32) (a_tape : Nat) (m_taped : Int32) (m_size : Int32) (m_at : Int32) (m_end : Int32) (m_token : Int32) (m_whole : Int32) (m_nameSize : Int32) (m_fault : Int32) (m_place : Int32) (m_trouble : Int32) (a_letters : Nat) (m_failed : Int32) (m_hasHouse : Int32) (a_r : Nat) (a_fresh : Nat) (a_st : Nat) (a_undone : Nat) (a_kept : Nat) (m_undos : Int32) (m_images : Int32) (a_from : Nat) (a_begin : Nat) (a_motor : Nat) (a_change : Nat) (a_startFrame : Nat) (a_changeFrame : Nat) (a_lostAt : Nat) (a_blackAt : Nat) (a_slips : Nat) (a_leftArc : Nat) (a_died : Nat) (a_arcs : Nat) (m_bestSum : Int32) (m_nearest : Int32) (m_nearestTown : Int32) (a_there : Nat) (a_backAt : Nat) (a_sorted : Nat) (a_parts : Nat) (m_seed1 : Int32) (m_darkNow : Int32) (d_r : Nat → Int32) (d_st : Nat → Int32) (d_from : Nat → Int32) (d_begin : Nat → Int32) (d_motor : Nat → Int32) (d_change : Nat → Int32) (d_startFrame : Nat → Int32) (d_changeFrame : Nat → Int32) (d_lostAt : Nat → Int32) (d_blackAt : Nat → Int32) (d_slips : Nat → Int32) (d_leftArc : Nat → Int32) (d_died : Nat → Int32) (d_arcs : Nat → Int32) (hv_m_hasHouse : IV m_hasHouse 0 1) (hp_d_r : RInv d_r) : cI l g yX11_arc cX11_arc 3 (some .int) 6 132 0 0 [.ref h0, .int p0, .int p1] [(cO11_i1r1i10r1i2r5i2r12i3r4i2 h0 m_thrown a_tape m_taped m_size m_at m_end m_token m_whole m_nameSize m_fault m_place m_trouble a_letters m_failed m_hasHouse a_r a_fresh a_st a_undone a_kept m_undos m_images a_from a_begin a_motor a_change a_startFrame a_changeFrame a_lostAt a_blackAt a_slips a_leftArc a_died a_arcs m_bestSum m_nearest m_nearestTown a_there a_backAt a_sorted a_parts m_seed1 m_darkNow), (cAI g a_r 311 d_r), (cAI g a_st 44 d_st), (cAI g a_from 8 d_from), (cAI g a_begin 8 d_begin), (cAI g a_motor 8 d_motor), (cAI g a_change 8 d_change), (cAI g a_startFrame 8 d_startFrame), (cAI g a_changeFrame 8 d_changeFrame), (cAI g a_lostAt 8 d_lostAt), (cAI g a_blackAt 8 d_blackAt), (cAI g a_slips 8 d_slips), (cAI g a_leftArc 8 d_leftArc), (cAI g a_died 8 d_died), (cAI g a_arcs 2 d_arcs)] (fun r w => ∃ (d_arcs2 : Nat → Int32) (d_begin2 : Nat → Int32) (d_blackAt2 : Nat → Int32) (d_change2 : Nat → Int32) (d_changeFrame2 : Nat → Int32) (d_died2 : Nat → Int32) (d_from2 : Nat → Int32) (d_leftArc2 : Nat → Int32) (d_lostAt2 : Nat → Int32) (d_motor2 : Nat → Int32) (d_slips2 : Nat → Int32) (d_startFrame2 : Nat → Int32) (m_thrown2 : Int32) (m_trouble2 : Int32), w = [(cO11_i1r1i10r1i2r5i2r12i3r4i2 h0 m_thrown2 a_tape m_taped m_size m_at m_end m_token m_whole m_nameSize m_fault m_place m_trouble2 a_letters m_failed m_hasHouse a_r a_fresh a_st a_undone a_kept m_undos m_images a_from a_begin a_motor a_change a_startFrame a_changeFrame a_lostAt a_blackAt a_slips a_leftArc a_died a_arcs m_bestSum m_nearest m_nearestTown a_there a_backAt a_sorted a_parts m_seed1 m_darkNow), (cAI g a_r 311 d_r), (cAI g a_st 44 d_st), (cAI g a_from 8 d_from2), (cAI g a_begin 8 d_begin2), (cAI g a_motor 8 d_motor2), (cAI g a_change 8 d_change2), (cAI g a_startFrame 8 d_startFrame2), (cAI g a_changeFrame 8 d_changeFrame2), (cAI g a_lostAt 8 d_lostAt2), (cAI g a_blackAt 8 d_blackAt2), (cAI g a_slips 8 d_slips2), (cAI g a_leftArc 8 d_leftArc2), (cAI g a_died 8 d_died2), (cAI g a_arcs 2 d_arcs2)]) := by
  refine cI.of (by decide) (Nat.le_of_ble_eq_true rfl) ?_
  intro p e s m args below meth c A X hr hi
  refine k_lveq [(0, .ref h0), (1, .int p0), (2, .int p1)] rfl ?_
  refine k_aload_n X dX11_arc_0 0 rfl ?_
  refine k_callVV (n := 0) (As := []) (st := []) X [(cO11_i1r1i10r1i2r5i2r12i3r4i2 h0 m_thrown a_tape m_taped m_size m_at m_end m_token m_whole m_nameSize m_fault m_place m_trouble a_letters m_failed m_hasHouse a_r a_fresh a_st a_undone a_kept m_undos m_images a_from a_begin a_motor a_change a_startFrame a_changeFrame a_lostAt a_blackAt a_slips a_leftArc a_died a_arcs m_bestSum m_nearest m_nearestTown a_there a_backAt a_sorted a_parts m_seed1 m_darkNow)] [(cAI g a_r 311 d_r), (cAI g a_st 44 d_st), (cAI g a_from 8 d_from), (cAI g a_begin 8 d_begin), (cAI g a_motor 8 d_motor), (cAI g a_change 8 d_change), (cAI g a_startFrame 8 d_startFrame), (cAI g a_changeFrame 8 d_changeFrame), (cAI g a_lostAt 8 d_lostAt), (cAI g a_blackAt 8 d_blackAt), (cAI g a_slips 8 d_slips), (cAI g a_leftArc 8 d_leftArc), (cAI g a_died 8 d_died), (cAI g a_arcs 2 d_arcs)] [0] [1, 2, 3, 4, 5, 6, 7, 8, 9, 10, 11, 12, 13, 14] (m_good l g h0 m_thrown a_tape m_taped m_size m_at m_end m_token m_whole m_nameSize m_fault m_place m_trouble a_letters m_failed m_hasHouse a_r a_fresh a_st a_undone a_kept m_undos m_images a_from a_begin a_motor a_change a_startFrame a_changeFrame a_lostAt a_blackAt a_slips a_leftArc a_died a_arcs m_bestSum m_nearest m_nearestTown a_there a_backAt a_sorted a_parts m_seed1 m_darkNow) dX11_arc_1 mw477 mw478 mw479 mw5 mw480 rfl 11 rfl rfl 0 _ rfl yk_yX11_good_0 rfl (Nat.le_of_ble_eq_true rfl) (Nat.le_of_ble_eq_true rfl) (Nat.le_of_ble_eq_true rfl) (Nat.le_of_ble_eq_true rfl) (Nat.le_of_ble_eq_true rfl) rfl rfl (by decide +kernel) rfl (by decide +kernel) (by decide +kernel) ?_
  rintro w ⟨m_thrown2_1, m_trouble2_2, rfl⟩
  refine k_ws [(cAI g a_r 311 d_r), (cAI g a_st 44 d_st), (cAI g a_from 8 d_from), (cAI g a_begin 8 d_begin), (cAI g a_motor 8 d_motor), (cAI g a_change 8 d_change), (cAI g a_startFrame 8 d_startFrame), (cAI g a_changeFrame 8 d_changeFrame), (cAI g a_lostAt 8 d_lostAt), (cAI g a_blackAt 8 d_blackAt), (cAI g a_slips 8 d_slips), (cAI g a_leftArc 8 d_leftArc), (cAI g a_died 8 d_died), (cAI g a_arcs 2 d_arcs), (cO11_i1r1i10r1i2r5i2r12i3r4i2 h0 m_thrown2_1 a_tape m_taped m_size m_at m_end m_token m_whole m_nameSize m_fault m_place m_trouble2_2 a_letters m_failed m_hasHouse a_r a_fresh a_st a_undone a_kept m_undos m_images a_from a_begin a_motor a_change a_startFrame a_changeFrame a_lostAt a_blackAt a_slips a_leftArc a_died a_arcs m_bestSum m_nearest m_nearestTown a_there a_backAt a_sorted a_parts m_seed1 m_darkNow)] rfl ?_
  refine k_aload_n X dX11_arc_4 0 rfl ?_
  refine k_iload_n X dX11_arc_5 1 rfl ?_
  refine k_iload_n X dX11_arc_6 2 rfl ?_
  refine k_callVI (n := 2) (As := [.int p0, .int p1]) (st := []) X [(cO11_i1r1i10r1i2r5i2r12i3r4i2 h0 m_thrown2_1 a_tape m_taped m_size m_at m_end m_token m_whole m_nameSize m_fault m_place m_trouble2_2 a_letters m_failed m_hasHouse a_r a_fresh a_st a_undone a_kept m_undos m_images a_from a_begin a_motor a_change a_startFrame a_changeFrame a_lostAt a_blackAt a_slips a_leftArc a_died a_arcs m_bestSum m_nearest m_nearestTown a_there a_backAt a_sorted a_parts m_seed1 m_darkNow), (cAI g a_r 311 d_r), (cAI g a_st 44 d_st), (cAI g a_from 8 d_from), (cAI g a_begin 8 d_begin), (cAI g a_motor 8 d_motor), (cAI g a_change 8 d_change), (cAI g a_startFrame 8 d_startFrame), (cAI g a_changeFrame 8 d_changeFrame), (cAI g a_lostAt 8 d_lostAt), (cAI g a_blackAt 8 d_blackAt), (cAI g a_slips 8 d_slips)] [(cAI g a_leftArc 8 d_leftArc), (cAI g a_died 8 d_died), (cAI g a_arcs 2 d_arcs)] [14, 0, 1, 2, 3, 4, 5, 6, 7, 8, 9, 10] [11, 12, 13] (m_canTell l g h0 p0 p1 m_thrown2_1 a_tape m_taped m_size m_at m_end m_token m_whole m_nameSize m_fault m_place m_trouble2_2 a_letters m_failed m_hasHouse a_r a_fresh a_st a_undone a_kept m_undos m_images a_from a_begin a_motor a_change a_startFrame a_changeFrame a_lostAt a_blackAt a_slips a_leftArc a_died a_arcs m_bestSum m_nearest m_nearestTown a_there a_backAt a_sorted a_parts m_seed1 m_darkNow d_r d_st d_from d_begin d_motor d_change d_startFrame d_changeFrame d_lostAt d_blackAt d_slips (iv_w hv_m_hasHouse (by decide) (by decide)) hp_d_r) dX11_arc_7 mw807 mw808 mw809 mw5 mw810 rfl 11 rfl rfl 0 _ rfl yk_yX11_canTell_2 rfl (Nat.le_of_ble_eq_true rfl) (Nat.le_of_ble_eq_true rfl) (Nat.le_of_ble_eq_true rfl) (Nat.le_of_ble_eq_true rfl) (Nat.le_of_ble_eq_true rfl) rfl rfl (by decide +kernel) rfl (by decide +kernel) (by decide +kernel) ?_
  intro r_13 w zq
  refine exE9 zq ?_
  clear zq
  intro d_begin2_4 d_blackAt2_5 d_change2_6 d_changeFrame2_7 d_from2_8 d_lostAt2_9 d_motor2_10 d_slips2_11 d_startFrame2_12 iv_14 zq
  refine exA1 zq ?_
  clear zq
  intro hk_15 zq
  subst zq
  refine k_ws [(cAI g a_leftArc 8 d_leftArc), (cAI g a_died 8 d_died), (cAI g a_arcs 2 d_arcs), (cO11_i1r1i10r1i2r5i2r12i3r4i2 h0 m_thrown2_1 a_tape m_taped m_size m_at m_end m_token m_whole m_nameSize m_fault m_place m_trouble2_2 a_letters m_failed m_hasHouse a_r a_fresh a_st a_undone a_kept m_undos m_images a_from a_begin a_motor a_change a_startFrame a_changeFrame a_lostAt a_blackAt a_slips a_leftArc a_died a_arcs m_bestSum m_nearest m_nearestTown a_there a_backAt a_sorted a_parts m_seed1 m_darkNow), (cAI g a_r 311 d_r), (cAI g a_st 44 d_st), (cAI g a_from 8 d_from2_8), (cAI g a_begin 8 d_begin2_4), (cAI g a_motor 8 d_motor2_10), (cAI g a_change 8 d_change2_6), (cAI g a_startFrame 8 d_startFrame2_12), (cAI g a_changeFrame 8 d_changeFrame2_7), (cAI g a_lostAt 8 d_lostAt2_9), (cAI g a_blackAt 8 d_blackAt2_5), (cAI g a_slips 8 d_slips2_11)] rfl ?_
  refine k_if_ne 19 X dX11_arc_10 (by decide) (fun h_16 => ?_) (fun h_16 => ?_)
  · skip
    have hc_17 := hk_15.resolve_left h_16
    have iv_18 : IV p0 0 3 := iv_meet (iv_any p0) hc_17.1 (by decide) (by decide)
    have iv_19 : IV p1 0 7 := iv_meet (iv_any p1) hc_17.2.1 (by decide) (by decide)
    have j_20 : p1.toInt < (d_r 12).toInt := hc_17.2.2
    have iv_21 : IV r_13 1 1 := iv_neL h_16 iv_14 (show IV 0 0 0 from (by decide)) (by decide)
    refine k_aload_n X dX11_arc_19 0 rfl ?_
    refine k_aload_n X dX11_arc_20 0 rfl ?_
    refine k_get (ci := 11) X inlX11 rfl 17 (by decide) dX11_arc_21 mw172 3 rfl rfl ?_
    refine k_bipush (v := 42) X dX11_arc_24 (by decide) ?_
    refine k_iald X dX11_arc_26 5 rfl (by unfold vp_in; decide) ?_
    refine k_nm (fun z_22 ez_22 => ?_)
    refine k_callVI (n := 1) (As := [.int z_22]) (st := []) X [(cO11_i1r1i10r1i2r5i2r12i3r4i2 h0 m_thrown2_1 a_tape m_taped m_size m_at m_end m_token m_whole m_nameSize m_fault m_place m_trouble2_2 a_letters m_failed m_hasHouse a_r a_fresh a_st a_undone a_kept m_undos m_images a_from a_begin a_motor a_change a_startFrame a_changeFrame a_lostAt a_blackAt a_slips a_leftArc a_died a_arcs m_bestSum m_nearest m_nearestTown a_there a_backAt a_sorted a_parts m_seed1 m_darkNow), (cAI g a_r 311 d_r), (cAI g a_motor 8 d_motor2_10), (cAI g a_change 8 d_change2_6), (cAI g a_leftArc 8 d_leftArc), (cAI g a_died 8 d_died), (cAI g a_arcs 2 d_arcs)] [(cAI g a_st 44 d_st), (cAI g a_from 8 d_from2_8), (cAI g a_begin 8 d_begin2_4), (cAI g a_startFrame 8 d_startFrame2_12), (cAI g a_changeFrame 8 d_changeFrame2_7), (cAI g a_lostAt 8 d_lostAt2_9), (cAI g a_blackAt 8 d_blackAt2_5), (cAI g a_slips 8 d_slips2_11)] [3, 4, 8, 9, 0, 1, 2] [5, 6, 7, 10, 11, 12, 13, 14] (m_burn l g h0 z_22 m_thrown2_1 a_tape m_taped m_size m_at m_end m_token m_whole m_nameSize m_fault m_place m_trouble2_2 a_letters m_failed m_hasHouse a_r a_fresh a_st a_undone a_kept m_undos m_images a_from a_begin a_motor a_change a_startFrame a_changeFrame a_lostAt a_blackAt a_slips a_leftArc a_died a_arcs m_bestSum m_nearest m_nearestTown a_there a_backAt a_sorted a_parts m_seed1 m_darkNow d_r d_motor2_10 d_change2_6 d_leftArc d_died d_arcs hp_d_r) dX11_arc_27 mw1050 mw1051 mw1052 mw5 mw1053 rfl 11 rfl rfl 0 _ rfl yk_yX11_burn_1 rfl (Nat.le_of_ble_eq_true rfl) (Nat.le_of_ble_eq_true rfl) (Nat.le_of_ble_eq_true rfl) (Nat.le_of_ble_eq_true rfl) (Nat.le_of_ble_eq_true rfl) rfl rfl (by decide +kernel) rfl (by decide +kernel) (by decide +kernel) ?_
    rintro r_26 w ⟨d_arcs2_23, d_died2_24, d_leftArc2_25, iv_27, rfl⟩
    refine k_ws [(cAI g a_st 44 d_st), (cAI g a_from 8 d_from2_8), (cAI g a_begin 8 d_begin2_4), (cAI g a_startFrame 8 d_startFrame2_12), (cAI g a_changeFrame 8 d_changeFrame2_7), (cAI g a_lostAt 8 d_lostAt2_9), (cAI g a_blackAt 8 d_blackAt2_5), (cAI g a_slips 8 d_slips2_11), (cO11_i1r1i10r1i2r5i2r12i3r4i2 h0 m_thrown2_1 a_tape m_taped m_size m_at m_end m_token m_whole m_nameSize m_fault m_place m_trouble2_2 a_letters m_failed m_hasHouse a_r a_fresh a_st a_undone a_kept m_undos m_images a_from a_begin a_motor a_change a_startFrame a_changeFrame a_lostAt a_blackAt a_slips a_leftArc a_died a_arcs m_bestSum m_nearest m_nearestTown a_there a_backAt a_sorted a_parts m_seed1 m_darkNow), (cAI g a_r 311 d_r), (cAI g a_motor 8 d_motor2_10), (cAI g a_change 8 d_change2_6), (cAI g a_leftArc 8 d_leftArc2_25), (cAI g a_died 8 d_died2_24), (cAI g a_arcs 2 d_arcs2_23)] rfl ?_
    refine k_pop X dX11_arc_30 rfl ?_
    refine k_aload_n X dX11_arc_31 0 rfl ?_
    refine k_get (ci := 11) X inlX11 rfl 31 (by decide) dX11_arc_32 mw184 8 rfl rfl ?_
    refine k_iload_n X dX11_arc_35 2 rfl ?_
    refine k_iald X dX11_arc_36 12 rfl (iv_in iv_19 (by decide) (by decide)) ?_
    refine k_nm (fun z_28 ez_28 => ?_)
    exact k_iret X hr dX11_arc_37 (Nat.le_of_ble_eq_true rfl) (Nat.le_of_ble_eq_true rfl) [8, 9, 0, 1, 2, 10, 11, 3, 4, 5, 6, 7, 12, 13, 14] (by decide) rfl rfl ⟨d_arcs2_23, d_begin2_4, d_blackAt2_5, d_change2_6, d_changeFrame2_7, d_died2_24, d_from2_8, d_leftArc2_25, d_lostAt2_9, d_motor2_10, d_slips2_11, d_startFrame2_12, m_thrown2_1, m_trouble2_2, rfl⟩
  · skip
    have iv_29 : IV r_13 0 0 := iv_meet iv_14 (iv_e h_16 (show IV 0 0 0 from (by decide))) (by decide) (by decide)
    refine k_aload_n X dX11_arc_13 0 rfl ?_
    refine k_iconst (v := 1) X dX11_arc_14 (by decide) ?_
    refine k_callVI (n := 1) (As := [.int 1]) (st := []) X [(cO11_i1r1i10r1i2r5i2r12i3r4i2 h0 m_thrown2_1 a_tape m_taped m_size m_at m_end m_token m_whole m_nameSize m_fault m_place m_trouble2_2 a_letters m_failed m_hasHouse a_r a_fresh a_st a_undone a_kept m_undos m_images a_from a_begin a_motor a_change a_startFrame a_changeFrame a_lostAt a_blackAt a_slips a_leftArc a_died a_arcs m_bestSum m_nearest m_nearestTown a_there a_backAt a_sorted a_parts m_seed1 m_darkNow)] [(cAI g a_leftArc 8 d_leftArc), (cAI g a_died 8 d_died), (cAI g a_arcs 2 d_arcs), (cAI g a_r 311 d_r), (cAI g a_st 44 d_st), (cAI g a_from 8 d_from2_8), (cAI g a_begin 8 d_begin2_4), (cAI g a_motor 8 d_motor2_10), (cAI g a_change 8 d_change2_6), (cAI g a_startFrame 8 d_startFrame2_12), (cAI g a_changeFrame 8 d_changeFrame2_7), (cAI g a_lostAt 8 d_lostAt2_9), (cAI g a_blackAt 8 d_blackAt2_5), (cAI g a_slips 8 d_slips2_11)] [3] [0, 1, 2, 4, 5, 6, 7, 8, 9, 10, 11, 12, 13, 14] (m_no l g h0 1 m_thrown2_1 a_tape m_taped m_size m_at m_end m_token m_whole m_nameSize m_fault m_place m_trouble2_2 a_letters m_failed m_hasHouse a_r a_fresh a_st a_undone a_kept m_undos m_images a_from a_begin a_motor a_change a_startFrame a_changeFrame a_lostAt a_blackAt a_slips a_leftArc a_died a_arcs m_bestSum m_nearest m_nearestTown a_there a_backAt a_sorted a_parts m_seed1 m_darkNow) dX11_arc_15 mw485 mw486 mw487 mw5 mw488 rfl 11 rfl rfl 0 _ rfl yk_yX11_no_1 rfl (Nat.le_of_ble_eq_true rfl) (Nat.le_of_ble_eq_true rfl) (Nat.le_of_ble_eq_true rfl) (Nat.le_of_ble_eq_true rfl) (Nat.le_of_ble_eq_true rfl) rfl rfl (by decide +kernel) rfl (by decide +kernel) (by decide +kernel) ?_
    rintro r_31 w ⟨m_trouble2_30, iv_32, rfl⟩
    refine k_ws [(cAI g a_leftArc 8 d_leftArc), (cAI g a_died 8 d_died), (cAI g a_arcs 2 d_arcs), (cAI g a_r 311 d_r), (cAI g a_st 44 d_st), (cAI g a_from 8 d_from2_8), (cAI g a_begin 8 d_begin2_4), (cAI g a_motor 8 d_motor2_10), (cAI g a_change 8 d_change2_6), (cAI g a_startFrame 8 d_startFrame2_12), (cAI g a_changeFrame 8 d_changeFrame2_7), (cAI g a_lostAt 8 d_lostAt2_9), (cAI g a_blackAt 8 d_blackAt2_5), (cAI g a_slips 8 d_slips2_11), (cO11_i1r1i10r1i2r5i2r12i3r4i2 h0 m_thrown2_1 a_tape m_taped m_size m_at m_end m_token m_whole m_nameSize m_fault m_place m_trouble2_30 a_letters m_failed m_hasHouse a_r a_fresh a_st a_undone a_kept m_undos m_images a_from a_begin a_motor a_change a_startFrame a_changeFrame a_lostAt a_blackAt a_slips a_leftArc a_died a_arcs m_bestSum m_nearest m_nearestTown a_there a_backAt a_sorted a_parts m_seed1 m_darkNow)] rfl ?_
    exact k_iret X hr dX11_arc_18 (Nat.le_of_ble_eq_true rfl) (Nat.le_of_ble_eq_true rfl) [14, 3, 4, 5, 6, 7, 8, 9, 10, 11, 12, 13, 0, 1, 2] (by decide) rfl rfl ⟨d_arcs, d_begin2_4, d_blackAt2_5, d_change2_6, d_changeFrame2_7, d_died, d_from2_8, d_leftArc, d_lostAt2_9, d_motor2_10, d_slips2_11, d_startFrame2_12, m_thrown2_1, m_trouble2_30, rfl⟩

theorem dX11_free_0 : decode cX11_free 0 = .ok (.aload_n 0, 1) := dk_42 rfl
theorem dX11_free_1 : decode cX11_free 1 = .ok (.invokevirtual 200, 3) := dk_182 rfl rfl rfl rfl
theorem dX11_free_4 : decode cX11_free 4 = .ok (.aload_n 0, 1) := dk_42 rfl
theorem dX11_free_5 : decode cX11_free 5 = .ok (.iload_n 1, 1) := dk_27 rfl
theorem dX11_free_6 : decode cX11_free 6 = .ok (.iload_n 2, 1) := dk_28 rfl
theorem dX11_free_7 : decode cX11_free 7 = .ok (.invokevirtual 376, 3) := dk_182 rfl rfl rfl rfl
theorem dX11_free_10 : decode cX11_free 10 = .ok (.ifCond .eq 11, 3) := dk_153 rfl rfl rfl (by decide)
theorem dX11_free_13 : decode cX11_free 13 = .ok (.aload_n 0, 1) := dk_42 rfl
theorem dX11_free_14 : decode cX11_free 14 = .ok (.iload_n 2, 1) := dk_28 rfl
theorem dX11_free_15 : decode cX11_free 15 = .ok (.invokevirtual 385, 3) := dk_182 rfl rfl rfl rfl
theorem dX11_free_18 : decode cX11_free 18 = .ok (.goto 8, 3) := dk_167 rfl rfl rfl (by decide)
theorem dX11_free_21 : decode cX11_free 21 = .ok (.aload_n 0, 1) := dk_42 rfl
theorem dX11_free_22 : decode cX11_free 22 = .ok (.iconst 1, 1) := dk_4 rfl
theorem dX11_free_23 : decode cX11_free 23 = .ok (.invokevirtual 203, 3) := dk_182 rfl rfl rfl rfl
theorem dX11_free_26 : decode cX11_free 26 = .ok (.ireturn, 1) := dk_172 rfl
set_option maxHeartbeats 4000000 in
set_option maxRecDepth 100000 in
theorem m_free (l : Launch) (g : Gx) (h0 : Nat) (p0 : Int32) (p1 : Int32) (m_thrown : Int32) (a_tape : Nat) (m_taped : Int32) (m_size : Int32) (m_at : Int32) (m_end : Int32) (m_token : Int32) (m_whole : Int32) (m_nameSize : Int32) (m_fault : Int32) (m_place : Int32) (m_trouble : Int32) (a_letters : Nat) (m_failed : Int32) (m_hasHouse : Int32) (a_r : Nat) (a_fresh : Nat) (a_st : Nat) (a_undone : Nat) (a_kept : Nat) (m_undos : Int32) (m_images : Int32) (a_from : Nat) (a_begin : Nat) (a_motor : Nat) (a_change : Nat) (a_startFrame : Nat) (a_changeFrame : Nat) (a_lostAt : Nat) (a_blackAt : Nat) (a_slips : Nat) (a_leftArc : Nat) (a_died : Nat) (a_arcs : Nat) (m_bestSum : Int32) (m_nearest : Int32) (m_nearestTown : Int32) (a_there : Nat) (a_backAt : Nat) (a_sorted : Nat) (a_parts : Nat) (m_seed1 : Int32) (m_darkNow : Int32) (d_r : Nat → Int32) (d_st : Nat → Int32) (d_from : Nat → Int32) (d_begin : Nat → Int32) (d_motor : Nat → Int32) (d_change : Nat → Int32) (d_startFrame : Nat → Int32) (d_changeFrame : Nat → Int32) (d_lostAt : Nat → Int32) (d_blackAt : Nat → Int32) (d_slips : Nat → Int32) (hv_m_hasHouse : IV m_hasHouse 0 1) (hp_d_r : RInv d_r) : cI l g yX11_free cX11_free 3 (some .int) 6 132 0 0 [.ref h0, .int p0, .int p1] [(cO11_i1r1i10r1i2r5i2r12i3r4i2 h0 m_thrown a_tape m_taped m_size m_at m_end m_token m_whole m_nameSize m_fault m_place m_trouble a_letters m_failed m_hasHouse a_r a_fresh a_st a_undone a_kept m_undos m_images a_from a_begin a_motor a_change a_startFrame a_changeFrame a_lostAt a_blackAt a_slips a_leftArc a_died a_arcs m_bestSum m_nearest m_nearestTown a_there a_backAt a_sorted a_parts m_seed1 m_darkNow), (cAI g a_r 311 d_r), (cAI g a_st 44 d_st), (cAI g a_from 8 d_from), (cAI g a_begin 8 d_begin), (cAI g a_motor 8 d_motor), (cAI g a_change 8 d_change), (cAI g a_startFrame 8 d_startFrame), (cAI g a_changeFrame 8 d_changeFrame), (cAI g a_lostAt 8 d_lostAt), (cAI g a_blackAt 8 d_blackAt), (cAI g a_slips 8 d_slips)] (fun r w => ∃ (d_begin2 : Nat → Int32) (d_blackAt2 : Nat → Int32) (d_change2 : Nat → Int32) (d_changeFrame2 : Nat → Int32) (d_from2 : Nat → Int32) (d_lostAt2 : Nat → Int32) (d_motor2 : Nat → Int32) (d_slips2 : Nat → Int32) (d_startFrame2 : Nat → Int32) (m_thrown2 : Int32) (m_trouble2 : Int32), w = [(cO11_i1r1i10r1i2r5i2r12i3r4i2 h0 m_thrown2 a_tape m_taped m_size m_at m_end m_token m_whole m_nameSize m_fault m_place m_trouble2 a_letters m_failed m_hasHouse a_r a_fresh a_st a_undone a_kept m_undos m_images a_from a_begin a_motor a_change a_startFrame a_changeFrame a_lostAt a_blackAt a_slips a_leftArc a_died a_arcs m_bestSum m_nearest m_nearestTown a_there a_backAt a_sorted a_parts m_seed1 m_darkNow), (cAI g a_r 311 d_r), (cAI g a_st 44 d_st), (cAI g a_from 8 d_from2), (cAI g a_begin 8 d_begin2), (cAI g a_motor 8 d_motor2), (cAI g a_change 8 d_change2), (cAI g a_startFrame 8 d_startFrame2), (cAI g a_changeFrame 8 d_changeFrame2), (cAI g a_lostAt 8 d_lostAt2), (cAI g a_blackAt 8 d_blackAt2), (cAI g a_slips 8 d_slips2)]) := by
  refine cI.of (by decide) (Nat.le_of_ble_eq_true rfl) ?_
  intro p e s m args below meth c A X hr hi
  refine k_lveq [(0, .ref h0), (1, .int p0), (2, .int p1)] rfl ?_
  refine k_aload_n X dX11_free_0 0 rfl ?_
  refine k_callVV (n := 0) (As := []) (st := []) X [(cO11_i1r1i10r1i2r5i2r12i3r4i2 h0 m_thrown a_tape m_taped m_size m_at m_end m_token m_whole m_nameSize m_fault m_place m_trouble a_letters m_failed m_hasHouse a_r a_fresh a_st a_undone a_kept m_undos m_images a_from a_begin a_motor a_change a_startFrame a_changeFrame a_lostAt a_blackAt a_slips a_leftArc a_died a_arcs m_bestSum m_nearest m_nearestTown a_there a_backAt a_sorted a_parts m_seed1 m_darkNow)] [(cAI g a_r 311 d_r), (cAI g a_st 44 d_st), (cAI g a_from 8 d_from), (cAI g a_begin 8 d_begin), (cAI g a_motor 8 d_motor), (cAI g a_change 8 d_change), (cAI g a_startFrame 8 d_startFrame), (cAI g a_changeFrame 8 d_changeFrame), (cAI g a_lostAt 8 d_lostAt), (cAI g a_blackAt 8 d_blackAt), (cAI g a_slips 8 d_slips)] [0] [1, 2, 3, 4, 5, 6, 7, 8, 9, 10, 11] (m_good l g h0 m_thrown a_tape m_taped m_size m_at m_end m_token m_whole m_nameSize m_fault m_place m_trouble a_letters m_failed m_hasHouse a_r a_fresh a_st a_undone a_kept m_undos m_images a_from a_begin a_motor a_change a_startFrame a_changeFrame a_lostAt a_blackAt a_slips a_leftArc a_died a_arcs m_bestSum m_nearest m_nearestTown a_there a_backAt a_sorted a_parts m_seed1 m_darkNow) dX11_free_1 mw477 mw478 mw479 mw5 mw480 rfl 11 rfl rfl 0 _ rfl yk_yX11_good_0 rfl (Nat.le_of_ble_eq_true rfl) (Nat.le_of_ble_eq_true rfl) (Nat.le_of_ble_eq_true rfl) (Nat.le_of_ble_eq_true rfl) (Nat.le_of_ble_eq_true rfl) rfl rfl (by decide +kernel) rfl (by decide +kernel) (by decide +kernel) ?_
  rintro w ⟨m_thrown2_1, m_trouble2_2, rfl⟩
  refine k_ws [(cAI g a_r 311 d_r), (cAI g a_st 44 d_st), (cAI g a_from 8 d_from), (cAI g a_begin 8 d_begin), (cAI g a_motor 8 d_motor), (cAI g a_change 8 d_change), (cAI g a_startFrame 8 d_startFrame), (cAI g a_changeFrame 8 d_changeFrame), (cAI g a_lostAt 8 d_lostAt), (cAI g a_blackAt 8 d_blackAt), (cAI g a_slips 8 d_slips), (cO11_i1r1i10r1i2r5i2r12i3r4i2 h0 m_thrown2_1 a_tape m_taped m_size m_at m_end m_token m_whole m_nameSize m_fault m_place m_trouble2_2 a_letters m_failed m_hasHouse a_r a_fresh a_st a_undone a_kept m_undos m_images a_from a_begin a_motor a_change a_startFrame a_changeFrame a_lostAt a_blackAt a_slips a_leftArc a_died a_arcs m_bestSum m_nearest m_nearestTown a_there a_backAt a_sorted a_parts m_seed1 m_darkNow)] rfl ?_
  refine k_aload_n X dX11_free_4 0 rfl ?_
  refine k_iload_n X dX11_free_5 1 rfl ?_
  refine k_iload_n X dX11_free_6 2 rfl ?_
  refine k_callVI (n := 2) (As := [.int p0, .int p1]) (st := []) X [(cO11_i1r1i10r1i2r5i2r12i3r4i2 h0 m_thrown2_1 a_tape m_taped m_size m_at m_end m_token m_whole m_nameSize m_fault m_place m_trouble2_2 a_letters m_failed m_hasHouse a_r a_fresh a_st a_undone a_kept m_undos m_images a_from a_begin a_motor a_change a_startFrame a_changeFrame a_lostAt a_blackAt a_slips a_leftArc a_died a_arcs m_bestSum m_nearest m_nearestTown a_there a_backAt a_sorted a_parts m_seed1 m_darkNow), (cAI g a_r 311 d_r), (cAI g a_st 44 d_st), (cAI g a_from 8 d_from), (cAI g a_begin 8 d_begin), (cAI g a_motor 8 d_motor), (cAI g a_change 8 d_change), (cAI g a_startFrame 8 d_startFrame), (cAI g a_changeFrame 8 d_changeFrame), (cAI g a_lostAt 8 d_lostAt), (cAI g a_blackAt 8 d_blackAt), (cAI g a_slips 8 d_slips)] [] [11, 0, 1, 2, 3, 4, 5, 6, 7, 8, 9, 10] [] (m_canTell l g h0 p0 p1 m_thrown2_1 a_tape m_taped m_size m_at m_end m_token m_whole m_nameSize m_fault m_place m_trouble2_2 a_letters m_failed m_hasHouse a_r a_fresh a_st a_undone a_kept m_undos m_images a_from a_begin a_motor a_change a_startFrame a_changeFrame a_lostAt a_blackAt a_slips a_leftArc a_died a_arcs m_bestSum m_nearest m_nearestTown a_there a_backAt a_sorted a_parts m_seed1 m_darkNow d_r d_st d_from d_begin d_motor d_change d_startFrame d_changeFrame d_lostAt d_blackAt d_slips (iv_w hv_m_hasHouse (by decide) (by decide)) hp_d_r) dX11_free_7 mw807 mw808 mw809 mw5 mw810 rfl 11 rfl rfl 0 _ rfl yk_yX11_canTell_2 rfl (Nat.le_of_ble_eq_true rfl) (Nat.le_of_ble_eq_true rfl) (Nat.le_of_ble_eq_true rfl) (Nat.le_of_ble_eq_true rfl) (Nat.le_of_ble_eq_true rfl) rfl rfl (by decide +kernel) rfl (by decide +kernel) (by decide +kernel) ?_
  intro r_13 w zq
  refine exE9 zq ?_
  clear zq
  intro d_begin2_4 d_blackAt2_5 d_change2_6 d_changeFrame2_7 d_from2_8 d_lostAt2_9 d_motor2_10 d_slips2_11 d_startFrame2_12 iv_14 zq
  refine exA1 zq ?_
  clear zq
  intro hk_15 zq
  subst zq
  refine k_ws [(cO11_i1r1i10r1i2r5i2r12i3r4i2 h0 m_thrown2_1 a_tape m_taped m_size m_at m_end m_token m_whole m_nameSize m_fault m_place m_trouble2_2 a_letters m_failed m_hasHouse a_r a_fresh a_st a_undone a_kept m_undos m_images a_from a_begin a_motor a_change a_startFrame a_changeFrame a_lostAt a_blackAt a_slips a_leftArc a_died a_arcs m_bestSum m_nearest m_nearestTown a_there a_backAt a_sorted a_parts m_seed1 m_darkNow), (cAI g a_r 311 d_r), (cAI g a_st 44 d_st), (cAI g a_from 8 d_from2_8), (cAI g a_begin 8 d_begin2_4), (cAI g a_motor 8 d_motor2_10), (cAI g a_change 8 d_change2_6), (cAI g a_startFrame 8 d_startFrame2_12), (cAI g a_changeFrame 8 d_changeFrame2_7), (cAI g a_lostAt 8 d_lostAt2_9), (cAI g a_blackAt 8 d_blackAt2_5), (cAI g a_slips 8 d_slips2_11)] rfl ?_
  refine k_if_eq 21 X dX11_free_10 (by decide) (fun h_16 => ?_) (fun h_16 => ?_)
  · skip
    have iv_17 : IV r_13 0 0 := iv_meet iv_14 (iv_e h_16 (show IV 0 0 0 from (by decide))) (by decide) (by decide)
    refine k_aload_n X dX11_free_21 0 rfl ?_
    refine k_iconst (v := 1) X dX11_free_22 (by decide) ?_
    refine k_callVI (n := 1) (As := [.int 1]) (st := []) X [(cO11_i1r1i10r1i2r5i2r12i3r4i2 h0 m_thrown2_1 a_tape m_taped m_size m_at m_end m_token m_whole m_nameSize m_fault m_place m_trouble2_2 a_letters m_failed m_hasHouse a_r a_fresh a_st a_undone a_kept m_undos m_images a_from a_begin a_motor a_change a_startFrame a_changeFrame a_lostAt a_blackAt a_slips a_leftArc a_died a_arcs m_bestSum m_nearest m_nearestTown a_there a_backAt a_sorted a_parts m_seed1 m_darkNow)] [(cAI g a_r 311 d_r), (cAI g a_st 44 d_st), (cAI g a_from 8 d_from2_8), (cAI g a_begin 8 d_begin2_4), (cAI g a_motor 8 d_motor2_10), (cAI g a_change 8 d_change2_6), (cAI g a_startFrame 8 d_startFrame2_12), (cAI g a_changeFrame 8 d_changeFrame2_7), (cAI g a_lostAt 8 d_lostAt2_9), (cAI g a_blackAt 8 d_blackAt2_5), (cAI g a_slips 8 d_slips2_11)] [0] [1, 2, 3, 4, 5, 6, 7, 8, 9, 10, 11] (m_no l g h0 1 m_thrown2_1 a_tape m_taped m_size m_at m_end m_token m_whole m_nameSize m_fault m_place m_trouble2_2 a_letters m_failed m_hasHouse a_r a_fresh a_st a_undone a_kept m_undos m_images a_from a_begin a_motor a_change a_startFrame a_changeFrame a_lostAt a_blackAt a_slips a_leftArc a_died a_arcs m_bestSum m_nearest m_nearestTown a_there a_backAt a_sorted a_parts m_seed1 m_darkNow) dX11_free_23 mw485 mw486 mw487 mw5 mw488 rfl 11 rfl rfl 0 _ rfl yk_yX11_no_1 rfl (Nat.le_of_ble_eq_true rfl) (Nat.le_of_ble_eq_true rfl) (Nat.le_of_ble_eq_true rfl) (Nat.le_of_ble_eq_true rfl) (Nat.le_of_ble_eq_true rfl) rfl rfl (by decide +kernel) rfl (by decide +kernel) (by decide +kernel) ?_
    rintro r_19 w ⟨m_trouble2_18, iv_20, rfl⟩
    refine k_ws [(cAI g a_r 311 d_r), (cAI g a_st 44 d_st), (cAI g a_from 8 d_from2_8), (cAI g a_begin 8 d_begin2_4), (cAI g a_motor 8 d_motor2_10), (cAI g a_change 8 d_change2_6), (cAI g a_startFrame 8 d_startFrame2_12), (cAI g a_changeFrame 8 d_changeFrame2_7), (cAI g a_lostAt 8 d_lostAt2_9), (cAI g a_blackAt 8 d_blackAt2_5), (cAI g a_slips 8 d_slips2_11), (cO11_i1r1i10r1i2r5i2r12i3r4i2 h0 m_thrown2_1 a_tape m_taped m_size m_at m_end m_token m_whole m_nameSize m_fault m_place m_trouble2_18 a_letters m_failed m_hasHouse a_r a_fresh a_st a_undone a_kept m_undos m_images a_from a_begin a_motor a_change a_startFrame a_changeFrame a_lostAt a_blackAt a_slips a_leftArc a_died a_arcs m_bestSum m_nearest m_nearestTown a_there a_backAt a_sorted a_parts m_seed1 m_darkNow)] rfl ?_
    exact k_iret X hr dX11_free_26 (Nat.le_of_ble_eq_true rfl) (Nat.le_of_ble_eq_true rfl) [11, 0, 1, 2, 3, 4, 5, 6, 7, 8, 9, 10] (by decide) rfl rfl ⟨d_begin2_4, d_blackAt2_5, d_change2_6, d_changeFrame2_7, d_from2_8, d_lostAt2_9, d_motor2_10, d_slips2_11, d_startFrame2_12, m_thrown2_1, m_trouble2_18, rfl⟩
  · skip
    have hc_21 := hk_15.resolve_left h_16
    have iv_22 : IV p0 0 3 := iv_meet (iv_any p0) hc_21.1 (by decide) (by decide)
    have iv_23 : IV p1 0 7 := iv_meet (iv_any p1) hc_21.2.1 (by decide) (by decide)
    have j_24 : p1.toInt < (d_r 12).toInt := hc_21.2.2
    have iv_25 : IV r_13 1 1 := iv_neL h_16 iv_14 (show IV 0 0 0 from (by decide)) (by decide)
    refine k_aload_n X dX11_free_13 0 rfl ?_
    refine k_iload_n X dX11_free_14 2 rfl ?_
    refine k_callVI (n := 1) (As := [.int p1]) (st := []) X [(cO11_i1r1i10r1i2r5i2r12i3r4i2 h0 m_thrown2_1 a_tape m_taped m_size m_at m_end m_token m_whole m_nameSize m_fault m_place m_trouble2_2 a_letters m_failed m_hasHouse a_r a_fresh a_st a_undone a_kept m_undos m_images a_from a_begin a_motor a_change a_startFrame a_changeFrame a_lostAt a_blackAt a_slips a_leftArc a_died a_arcs m_bestSum m_nearest m_nearestTown a_there a_backAt a_sorted a_parts m_seed1 m_darkNow), (cAI g a_motor 8 d_motor2_10), (cAI g a_change 8 d_change2_6)] [(cAI g a_r 311 d_r), (cAI g a_st 44 d_st), (cAI g a_from 8 d_from2_8), (cAI g a_begin 8 d_begin2_4), (cAI g a_startFrame 8 d_startFrame2_12), (cAI g a_changeFrame 8 d_changeFrame2_7), (cAI g a_lostAt 8 d_lostAt2_9), (cAI g a_blackAt 8 d_blackAt2_5), (cAI g a_slips 8 d_slips2_11)] [0, 5, 6] [1, 2, 3, 4, 7, 8, 9, 10, 11] (m_freeOf l g h0 p1 m_thrown2_1 a_tape m_taped m_size m_at m_end m_token m_whole m_nameSize m_fault m_place m_trouble2_2 a_letters m_failed m_hasHouse a_r a_fresh a_st a_undone a_kept m_undos m_images a_from a_begin a_motor a_change a_startFrame a_changeFrame a_lostAt a_blackAt a_slips a_leftArc a_died a_arcs m_bestSum m_nearest m_nearestTown a_there a_backAt a_sorted a_parts m_seed1 m_darkNow d_motor2_10 d_change2_6 (iv_w iv_23 (by decide) (by decide))) dX11_free_15 mw1054 mw1055 mw1056 mw5 mw1057 rfl 11 rfl rfl 0 _ rfl yk_yX11_freeOf_1 rfl (Nat.le_of_ble_eq_true rfl) (Nat.le_of_ble_eq_true rfl) (Nat.le_of_ble_eq_true rfl) (Nat.le_of_ble_eq_true rfl) (Nat.le_of_ble_eq_true rfl) rfl rfl (by decide +kernel) rfl (by decide +kernel) (by decide +kernel) ?_
    rintro r_26 w rfl
    refine k_ws [(cAI g a_r 311 d_r), (cAI g a_st 44 d_st), (cAI g a_from 8 d_from2_8), (cAI g a_begin 8 d_begin2_4), (cAI g a_startFrame 8 d_startFrame2_12), (cAI g a_changeFrame 8 d_changeFrame2_7), (cAI g a_lostAt 8 d_lostAt2_9), (cAI g a_blackAt 8 d_blackAt2_5), (cAI g a_slips 8 d_slips2_11), (cO11_i1r1i10r1i2r5i2r12i3r4i2 h0 m_thrown2_1 a_tape m_taped m_size m_at m_end m_token m_whole m_nameSize m_fault m_place m_trouble2_2 a_letters m_failed m_hasHouse a_r a_fresh a_st a_undone a_kept m_undos m_images a_from a_begin a_motor a_change a_startFrame a_changeFrame a_lostAt a_blackAt a_slips a_leftArc a_died a_arcs m_bestSum m_nearest m_nearestTown a_there a_backAt a_sorted a_parts m_seed1 m_darkNow), (cAI g a_motor 8 d_motor2_10), (cAI g a_change 8 d_change2_6)] rfl ?_
    refine k_goto 26 X dX11_free_18 (by decide) ?_
    exact k_iret X hr dX11_free_26 (Nat.le_of_ble_eq_true rfl) (Nat.le_of_ble_eq_true rfl) [9, 0, 1, 2, 3, 10, 11, 4, 5, 6, 7, 8] (by decide) rfl rfl ⟨d_begin2_4, d_blackAt2_5, d_change2_6, d_changeFrame2_7, d_from2_8, d_lostAt2_9, d_motor2_10, d_slips2_11, d_startFrame2_12, m_thrown2_1, m_trouble2_2, rfl⟩

theorem dX11_never_0 : decode cX11_never 0 = .ok (.aload_n 0, 1) := dk_42 rfl
theorem dX11_never_1 : decode cX11_never 1 = .ok (.invokevirtual 200, 3) := dk_182 rfl rfl rfl rfl
theorem dX11_never_4 : decode cX11_never 4 = .ok (.aload_n 0, 1) := dk_42 rfl
theorem dX11_never_5 : decode cX11_never 5 = .ok (.iload_n 1, 1) := dk_27 rfl
theorem dX11_never_6 : decode cX11_never 6 = .ok (.iconst 0, 1) := dk_3 rfl
theorem dX11_never_7 : decode cX11_never 7 = .ok (.invokevirtual 376, 3) := dk_182 rfl rfl rfl rfl
theorem dX11_never_10 : decode cX11_never 10 = .ok (.ifCond .ne 9, 3) := dk_154 rfl rfl rfl (by decide)
theorem dX11_never_13 : decode cX11_never 13 = .ok (.aload_n 0, 1) := dk_42 rfl
theorem dX11_never_14 : decode cX11_never 14 = .ok (.iconst 1, 1) := dk_4 rfl
theorem dX11_never_15 : decode cX11_never 15 = .ok (.invokevirtual 203, 3) := dk_182 rfl rfl rfl rfl
theorem dX11_never_18 : decode cX11_never 18 = .ok (.ireturn, 1) := dk_172 rfl
theorem dX11_never_19 : decode cX11_never 19 = .ok (.bipush (-2), 2) := dk_16 rfl rfl (by decide)
theorem dX11_never_21 : decode cX11_never 21 = .ok (.istore_n 2, 1) := dk_61 rfl
theorem dX11_never_22 : decode cX11_never 22 = .ok (.iconst 0, 1) := dk_3 rfl
theorem dX11_never_23 : decode cX11_never 23 = .ok (.istore_n 3, 1) := dk_62 rfl
theorem dX11_never_24 : decode cX11_never 24 = .ok (.iload_n 3, 1) := dk_29 rfl
theorem dX11_never_25 : decode cX11_never 25 = .ok (.iconst 1, 1) := dk_4 rfl
theorem dX11_never_26 : decode cX11_never 26 = .ok (.aload_n 0, 1) := dk_42 rfl
theorem dX11_never_27 : decode cX11_never 27 = .ok (.getfield 20, 3) := dk_180 rfl rfl rfl rfl
theorem dX11_never_30 : decode cX11_never 30 = .ok (.bipush 12, 2) := dk_16 rfl rfl (by decide)
theorem dX11_never_32 : decode cX11_never 32 = .ok (.iaload, 1) := dk_46 rfl
theorem dX11_never_33 : decode cX11_never 33 = .ok (.ishl, 1) := dk_120 rfl
theorem dX11_never_34 : decode cX11_never 34 = .ok (.if_icmp .ge 36, 3) := dk_162 rfl rfl rfl (by decide)
theorem dX11_never_37 : decode cX11_never 37 = .ok (.iload_n 2, 1) := dk_28 rfl
theorem dX11_never_38 : decode cX11_never 38 = .ok (.bipush (-2), 2) := dk_16 rfl rfl (by decide)
theorem dX11_never_40 : decode cX11_never 40 = .ok (.if_icmp .eq 14, 3) := dk_159 rfl rfl rfl (by decide)
theorem dX11_never_43 : decode cX11_never 43 = .ok (.iload_n 3, 1) := dk_29 rfl
theorem dX11_never_44 : decode cX11_never 44 = .ok (.invokestatic 394, 3) := dk_184 rfl rfl rfl rfl
theorem dX11_never_47 : decode cX11_never 47 = .ok (.iload_n 2, 1) := dk_28 rfl
theorem dX11_never_48 : decode cX11_never 48 = .ok (.invokestatic 394, 3) := dk_184 rfl rfl rfl rfl
theorem dX11_never_51 : decode cX11_never 51 = .ok (.if_icmp .ge 13, 3) := dk_162 rfl rfl rfl (by decide)
theorem dX11_never_54 : decode cX11_never 54 = .ok (.aload_n 0, 1) := dk_42 rfl
theorem dX11_never_55 : decode cX11_never 55 = .ok (.iload_n 3, 1) := dk_29 rfl
theorem dX11_never_56 : decode cX11_never 56 = .ok (.invokevirtual 391, 3) := dk_182 rfl rfl rfl rfl
theorem dX11_never_59 : decode cX11_never 59 = .ok (.ifCond .eq 5, 3) := dk_153 rfl rfl rfl (by decide)
theorem dX11_never_62 : decode cX11_never 62 = .ok (.iload_n 3, 1) := dk_29 rfl
theorem dX11_never_63 : decode cX11_never 63 = .ok (.istore_n 2, 1) := dk_61 rfl
theorem dX11_never_64 : decode cX11_never 64 = .ok (.iinc 3 1, 3) := dk_132 rfl rfl rfl rfl (by decide)
theorem dX11_never_67 : decode cX11_never 67 = .ok (.goto (-43), 3) := dk_167 rfl rfl rfl (by decide)
theorem dX11_never_70 : decode cX11_never 70 = .ok (.iload_n 2, 1) := dk_28 rfl
theorem dX11_never_71 : decode cX11_never 71 = .ok (.ireturn, 1) := dk_172 rfl
set_option maxHeartbeats 4000000 in
set_option maxRecDepth 100000 in
theorem m_never (l : Launch) (g : Gx) (h0 : Nat) (p0 : Int32) (m_thrown : Int32) (a_tape : Nat) (m_taped : Int32) (m_size : Int32) (m_at : Int32) (m_end : Int32) (m_token : Int32) (m_whole : Int32) (m_nameSize : Int32) (m_fault : Int32) (m_place : Int32) (m_trouble : Int32) (a_letters : Nat) (m_failed : Int32) (m_hasHouse : Int32) (a_r : Nat) (a_fresh : Nat) (a_st : Nat) (a_undone : Nat) (a_kept : Nat) (m_undos : Int32) (m_images : Int32) (a_from : Nat) (a_begin : Nat) (a_motor : Nat) (a_change : Nat) (a_startFrame : Nat) (a_changeFrame : Nat) (a_lostAt : Nat) (a_blackAt : Nat) (a_slips : Nat) (a_leftArc : Nat) (a_died : Nat) (a_arcs : Nat) (m_bestSum : Int32) (m_nearest : Int32) (m_nearestTown : Int32) (a_there : Nat) (a_backAt : Nat) (a_sorted : Nat) (a_parts : Nat) (m_seed1 : Int32) (m_darkNow : Int32) (d_r : Nat → Int32) (d_st : Nat → Int32) (d_from : Nat → Int32) (d_begin : Nat → Int32) (d_motor : Nat → Int32) (d_change : Nat → Int32) (d_startFrame : Nat → Int32) (d_changeFrame : Nat → Int32) (d_lostAt : Nat → Int32) (d_blackAt : Nat → Int32) (d_slips : Nat → Int32) (d_leftArc : Nat → Int32) (d_died : Nat → Int32) (d_arcs : Nat → Int32) (hv_m_hasHouse : IV m_hasHouse 0 1) (hp_d_r : RInv d_r) : cI l g yX11_never cX11_never 4 (some .int) 6 132 0 0 [.ref h0, .int p0] [(cO11_i1r1i10r1i2r5i2r12i3r4i2 h0 m_thrown a_tape m_taped m_size m_at m_end m_token m_whole m_nameSize m_fault m_place m_trouble a_letters m_failed m_hasHouse a_r a_fresh a_st a_undone a_kept m_undos m_images a_from a_begin a_motor a_change a_startFrame a_changeFrame a_lostAt a_blackAt a_slips a_leftArc a_died a_arcs m_bestSum m_nearest m_nearestTown a_there a_backAt a_sorted a_parts m_seed1 m_darkNow), (cAI g a_r 311 d_r), (cAI g a_st 44 d_st), (cAI g a_from 8 d_from), (cAI g a_begin 8 d_begin), (cAI g a_motor 8 d_motor), (cAI g a_change 8 d_change), (cAI g a_startFrame 8 d_startFrame), (cAI g a_changeFrame 8 d_changeFrame), (cAI g a_lostAt 8 d_lostAt), (cAI g a_blackAt 8 d_blackAt), (cAI g a_slips 8 d_slips), (cAI g a_leftArc 8 d_leftArc), (cAI g a_died 8 d_died), (cAI g a_arcs 2 d_arcs)] (fun r w => ∃ (d_arcs2 : Nat → Int32) (d_begin2 : Nat → Int32) (d_blackAt2 : Nat → Int32) (d_change2 : Nat → Int32) (d_changeFrame2 : Nat → Int32) (d_died2 : Nat → Int32) (d_from2 : Nat → Int32) (d_leftArc2 : Nat → Int32) (d_lostAt2 : Nat → Int32) (d_motor2 : Nat → Int32) (d_slips2 : Nat → Int32) (d_startFrame2 : Nat → Int32) (m_thrown2 : Int32) (m_trouble2 : Int32), w = [(cO11_i1r1i10r1i2r5i2r12i3r4i2 h0 m_thrown2 a_tape m_taped m_size m_at m_end m_token m_whole m_nameSize m_fault m_place m_trouble2 a_letters m_failed m_hasHouse a_r a_fresh a_st a_undone a_kept m_undos m_images a_from a_begin a_motor a_change a_startFrame a_changeFrame a_lostAt a_blackAt a_slips a_leftArc a_died a_arcs m_bestSum m_nearest m_nearestTown a_there a_backAt a_sorted a_parts m_seed1 m_darkNow), (cAI g a_r 311 d_r), (cAI g a_st 44 d_st), (cAI g a_from 8 d_from2), (cAI g a_begin 8 d_begin2), (cAI g a_motor 8 d_motor2), (cAI g a_change 8 d_change2), (cAI g a_startFrame 8 d_startFrame2), (cAI g a_changeFrame 8 d_changeFrame2), (cAI g a_lostAt 8 d_lostAt2), (cAI g a_blackAt 8 d_blackAt2), (cAI g a_slips 8 d_slips2), (cAI g a_leftArc 8 d_leftArc2), (cAI g a_died 8 d_died2), (cAI g a_arcs 2 d_arcs2)]) := by
  refine cI.of (by decide) (Nat.le_of_ble_eq_true rfl) ?_
  intro p e s m args below meth c A X hr hi
  refine k_lveq [(0, .ref h0), (1, .int p0)] rfl ?_
  refine k_aload_n X dX11_never_0 0 rfl ?_
  refine k_callVV (n := 0) (As := []) (st := []) X [(cO11_i1r1i10r1i2r5i2r12i3r4i2 h0 m_thrown a_tape m_taped m_size m_at m_end m_token m_whole m_nameSize m_fault m_place m_trouble a_letters m_failed m_hasHouse a_r a_fresh a_st a_undone a_kept m_undos m_images a_from a_begin a_motor a_change a_startFrame a_changeFrame a_lostAt a_blackAt a_slips a_leftArc a_died a_arcs m_bestSum m_nearest m_nearestTown a_there a_backAt a_sorted a_parts m_seed1 m_darkNow)] [(cAI g a_r 311 d_r), (cAI g a_st 44 d_st), (cAI g a_from 8 d_from), (cAI g a_begin 8 d_begin), (cAI g a_motor 8 d_motor), (cAI g a_change 8 d_change), (cAI g a_startFrame 8 d_startFrame), (cAI g a_changeFrame 8 d_changeFrame), (cAI g a_lostAt 8 d_lostAt), (cAI g a_blackAt 8 d_blackAt), (cAI g a_slips 8 d_slips), (cAI g a_leftArc 8 d_leftArc), (cAI g a_died 8 d_died), (cAI g a_arcs 2 d_arcs)] [0] [1, 2, 3, 4, 5, 6, 7, 8, 9, 10, 11, 12, 13, 14] (m_good l g h0 m_thrown a_tape m_taped m_size m_at m_end m_token m_whole m_nameSize m_fault m_place m_trouble a_letters m_failed m_hasHouse a_r a_fresh a_st a_undone a_kept m_undos m_images a_from a_begin a_motor a_change a_startFrame a_changeFrame a_lostAt a_blackAt a_slips a_leftArc a_died a_arcs m_bestSum m_nearest m_nearestTown a_there a_backAt a_sorted a_parts m_seed1 m_darkNow) dX11_never_1 mw477 mw478 mw479 mw5 mw480 rfl 11 rfl rfl 0 _ rfl yk_yX11_good_0 rfl (Nat.le_of_ble_eq_true rfl) (Nat.le_of_ble_eq_true rfl) (Nat.le_of_ble_eq_true rfl) (Nat.le_of_ble_eq_true rfl) (Nat.le_of_ble_eq_true rfl) rfl rfl (by decide +kernel) rfl (by decide +kernel) (by decide +kernel) ?_
  rintro w ⟨m_thrown2_1, m_trouble2_2, rfl⟩
  refine k_ws [(cAI g a_r 311 d_r), (cAI g a_st 44 d_st), (cAI g a_from 8 d_from), (cAI g a_begin 8 d_begin), (cAI g a_motor 8 d_motor), (cAI g a_change 8 d_change), (cAI g a_startFrame 8 d_startFrame), (cAI g a_changeFrame 8 d_changeFrame), (cAI g a_lostAt 8 d_lostAt), (cAI g a_blackAt 8 d_blackAt), (cAI g a_slips 8 d_slips), (cAI g a_leftArc 8 d_leftArc), (cAI g a_died 8 d_died), (cAI g a_arcs 2 d_arcs), (cO11_i1r1i10r1i2r5i2r12i3r4i2 h0 m_thrown2_1 a_tape m_taped m_size m_at m_end m_token m_whole m_nameSize m_fault m_place m_trouble2_2 a_letters m_failed m_hasHouse a_r a_fresh a_st a_undone a_kept m_undos m_images a_from a_begin a_motor a_change a_startFrame a_changeFrame a_lostAt a_blackAt a_slips a_leftArc a_died a_arcs m_bestSum m_nearest m_nearestTown a_there a_backAt a_sorted a_parts m_seed1 m_darkNow)] rfl ?_
  refine k_aload_n X dX11_never_4 0 rfl ?_
  refine k_iload_n X dX11_never_5 1 rfl ?_
  refine k_iconst (v := 0) X dX11_never_6 (by decide) ?_
  refine k_callVI (n := 2) (As := [.int p0, .int 0]) (st := []) X [(cO11_i1r1i10r1i2r5i2r12i3r4i2 h0 m_thrown2_1 a_tape m_taped m_size m_at m_end m_token m_whole m_nameSize m_fault m_place m_trouble2_2 a_letters m_failed m_hasHouse a_r a_fresh a_st a_undone a_kept m_undos m_images a_from a_begin a_motor a_change a_startFrame a_changeFrame a_lostAt a_blackAt a_slips a_leftArc a_died a_arcs m_bestSum m_nearest m_nearestTown a_there a_backAt a_sorted a_parts m_seed1 m_darkNow), (cAI g a_r 311 d_r), (cAI g a_st 44 d_st), (cAI g a_from 8 d_from), (cAI g a_begin 8 d_begin), (cAI g a_motor 8 d_motor), (cAI g a_change 8 d_change), (cAI g a_startFrame 8 d_startFrame), (cAI g a_changeFrame 8 d_changeFrame), (cAI g a_lostAt 8 d_lostAt), (cAI g a_blackAt 8 d_blackAt), (cAI g a_slips 8 d_slips)] [(cAI g a_leftArc 8 d_leftArc), (cAI g a_died 8 d_died), (cAI g a_arcs 2 d_arcs)] [14, 0, 1, 2, 3, 4, 5, 6, 7, 8, 9, 10] [11, 12, 13] (m_canTell l g h0 p0 0 m_thrown2_1 a_tape m_taped m_size m_at m_end m_token m_whole m_nameSize m_fault m_place m_trouble2_2 a_letters m_failed m_hasHouse a_r a_fresh a_st a_undone a_kept m_undos m_images a_from a_begin a_motor a_change a_startFrame a_changeFrame a_lostAt a_blackAt a_slips a_leftArc a_died a_arcs m_bestSum m_nearest m_nearestTown a_there a_backAt a_sorted a_parts m_seed1 m_darkNow d_r d_st d_from d_begin d_motor d_change d_startFrame d_changeFrame d_lostAt d_blackAt d_slips (iv_w hv_m_hasHouse (by decide) (by decide)) hp_d_r) dX11_never_7 mw807 mw808 mw809 mw5 mw810 rfl 11 rfl rfl 0 _ rfl yk_yX11_canTell_2 rfl (Nat.le_of_ble_eq_true rfl) (Nat.le_of_ble_eq_true rfl) (Nat.le_of_ble_eq_true rfl) (Nat.le_of_ble_eq_true rfl) (Nat.le_of_ble_eq_true rfl) rfl rfl (by decide +kernel) rfl (by decide +kernel) (by decide +kernel) ?_
  intro r_13 w zq
  refine exE9 zq ?_
  clear zq
  intro d_begin2_4 d_blackAt2_5 d_change2_6 d_changeFrame2_7 d_from2_8 d_lostAt2_9 d_motor2_10 d_slips2_11 d_startFrame2_12 iv_14 zq
  refine exA1 zq ?_
  clear zq
  intro hk_15 zq
  subst zq
  refine k_ws [(cAI g a_leftArc 8 d_leftArc), (cAI g a_died 8 d_died), (cAI g a_arcs 2 d_arcs), (cO11_i1r1i10r1i2r5i2r12i3r4i2 h0 m_thrown2_1 a_tape m_taped m_size m_at m_end m_token m_whole m_nameSize m_fault m_place m_trouble2_2 a_letters m_failed m_hasHouse a_r a_fresh a_st a_undone a_kept m_undos m_images a_from a_begin a_motor a_change a_startFrame a_changeFrame a_lostAt a_blackAt a_slips a_leftArc a_died a_arcs m_bestSum m_nearest m_nearestTown a_there a_backAt a_sorted a_parts m_seed1 m_darkNow), (cAI g a_r 311 d_r), (cAI g a_st 44 d_st), (cAI g a_from 8 d_from2_8), (cAI g a_begin 8 d_begin2_4), (cAI g a_motor 8 d_motor2_10), (cAI g a_change 8 d_change2_6), (cAI g a_startFrame 8 d_startFrame2_12), (cAI g a_changeFrame 8 d_changeFrame2_7), (cAI g a_lostAt 8 d_lostAt2_9), (cAI g a_blackAt 8 d_blackAt2_5), (cAI g a_slips 8 d_slips2_11)] rfl ?_
  refine k_if_ne 19 X dX11_never_10 (by decide) (fun h_16 => ?_) (fun h_16 => ?_)
  · skip
    have hc_17 := hk_15.resolve_left h_16
    have iv_18 : IV p0 0 3 := iv_meet (iv_any p0) hc_17.1 (by decide) (by decide)
    have j_19 : 0 < (d_r 12).toInt := hc_17.2.2
    have iv_20 : IV r_13 1 1 := iv_neL h_16 iv_14 (show IV 0 0 0 from (by decide)) (by decide)
    refine k_bipush (v := -2) X dX11_never_19 (by decide) ?_
    refine k_istore_n [(2, .int (-2)), (0, .ref h0), (1, .int p0)] X dX11_never_21 (by decide) rfl ?_
    refine k_iconst (v := 0) X dX11_never_22 (by decide) ?_
    refine k_istore_n [(3, .int 0), (2, .int (-2)), (0, .ref h0), (1, .int p0)] X dX11_never_23 (by decide) rfl ?_
    refine (fun hL : ∀ (nn_28 : Nat) (uf_21 : Nat → Int32) (uf_22 : Nat → Int32) (uf_23 : Nat → Int32) (u_24 : Int32) (u_26 : Int32), (2147483647 - u_26.toInt).toNat = nn_28 → (IV u_24 (-2) 255) → (IV u_26 0 900) → Wk p l e _ s m args below meth c _ A g _ _ _ [(cAI g a_leftArc 8 uf_23), (cAI g a_died 8 uf_22), (cAI g a_arcs 2 uf_21), (cO11_i1r1i10r1i2r5i2r12i3r4i2 h0 m_thrown2_1 a_tape m_taped m_size m_at m_end m_token m_whole m_nameSize m_fault m_place m_trouble2_2 a_letters m_failed m_hasHouse a_r a_fresh a_st a_undone a_kept m_undos m_images a_from a_begin a_motor a_change a_startFrame a_changeFrame a_lostAt a_blackAt a_slips a_leftArc a_died a_arcs m_bestSum m_nearest m_nearestTown a_there a_backAt a_sorted a_parts m_seed1 m_darkNow), (cAI g a_r 311 d_r), (cAI g a_st 44 d_st), (cAI g a_from 8 d_from2_8), (cAI g a_begin 8 d_begin2_4), (cAI g a_motor 8 d_motor2_10), (cAI g a_change 8 d_change2_6), (cAI g a_startFrame 8 d_startFrame2_12), (cAI g a_changeFrame 8 d_changeFrame2_7), (cAI g a_lostAt 8 d_lostAt2_9), (cAI g a_blackAt 8 d_blackAt2_5), (cAI g a_slips 8 d_slips2_11)] [(3, .int u_26), (2, .int u_24), (0, .ref h0), (1, .int p0)] 24 [] => hL _ d_arcs d_died d_leftArc ((-2)) 0 rfl (iv_w (show IV (-2) (-2) (-2) from (by decide)) (by decide) (by decide)) (iv_w (show IV 0 0 0 from (by decide)) (by decide) (by decide))) ?_
    refine fun nn_28 => Nat.strongRecOn nn_28 (fun nn_28 ih_30 => ?_)
    intro uf_21 uf_22 uf_23 u_24 u_26 hm_29 hv_25 hv_27
    refine k_iload_n X dX11_never_24 0 rfl ?_
    refine k_iconst (v := 1) X dX11_never_25 (by decide) ?_
    refine k_aload_n X dX11_never_26 2 rfl ?_
    refine k_get (ci := 11) X inlX11 rfl 15 (by decide) dX11_never_27 mw170 3 rfl rfl ?_
    refine k_bipush (v := 12) X dX11_never_30 (by decide) ?_
    refine k_iald X dX11_never_32 4 rfl (by unfold vp_in; decide) ?_
    refine k_nm (fun z_31 ez_31 => ?_)
    have i_32 : z_31.toInt = (d_r 12).toInt := by rw [ez_31]; rfl
    have iv_33 : IV z_31 0 8 := rb_12 ez_31 hp_d_r
    refine k_ishl X dX11_never_33 ?_
    refine k_nm (fun z_34 ez_34 => ?_)
    have iv_35 : IV z_34 1 256 := iv_shl ez_34 (iv_w iv_33 (by decide) (by decide))
    refine k_ic_ge 70 X dX11_never_34 (by decide) (fun h_36 => ?_) (fun h_36 => ?_)
    · skip
      have j_37 : z_34.toInt ≤ u_26.toInt := iv_le h_36
      have iv_38 : IV u_26 1 900 := iv_leR (iv_le h_36) iv_35 hv_27 (by decide)
      refine k_iload_n X dX11_never_70 1 rfl ?_
      exact k_iret X hr dX11_never_71 (Nat.le_of_ble_eq_true rfl) (Nat.le_of_ble_eq_true rfl) [3, 4, 5, 6, 7, 8, 9, 10, 11, 12, 13, 14, 0, 1, 2] (by decide) rfl rfl ⟨uf_21, d_begin2_4, d_blackAt2_5, d_change2_6, d_changeFrame2_7, uf_22, d_from2_8, uf_23, d_lostAt2_9, d_motor2_10, d_slips2_11, d_startFrame2_12, m_thrown2_1, m_trouble2_2, rfl⟩
    · skip
      have j_39 : u_26.toInt < z_34.toInt := iv_nle h_36
      have iv_40 : IV u_26 0 255 := iv_ltL (iv_nle h_36) hv_27 iv_35 (by decide)
      refine k_iload_n X dX11_never_37 1 rfl ?_
      refine k_bipush (v := -2) X dX11_never_38 (by decide) ?_
      refine k_ic_eq 54 X dX11_never_40 (by decide) (fun h_41 => ?_) (fun h_41 => ?_)
      · skip
        have iv_42 : IV u_24 (-2) (-2) := iv_meet hv_25 (iv_e h_41 (show IV (-2) (-2) (-2) from (by decide))) (by decide) (by decide)
        refine k_aload_n X dX11_never_54 2 rfl ?_
        refine k_iload_n X dX11_never_55 0 rfl ?_
        refine k_callVI (n := 1) (As := [.int u_26]) (st := []) X [(cO11_i1r1i10r1i2r5i2r12i3r4i2 h0 m_thrown2_1 a_tape m_taped m_size m_at m_end m_token m_whole m_nameSize m_fault m_place m_trouble2_2 a_letters m_failed m_hasHouse a_r a_fresh a_st a_undone a_kept m_undos m_images a_from a_begin a_motor a_change a_startFrame a_changeFrame a_lostAt a_blackAt a_slips a_leftArc a_died a_arcs m_bestSum m_nearest m_nearestTown a_there a_backAt a_sorted a_parts m_seed1 m_darkNow), (cAI g a_r 311 d_r), (cAI g a_motor 8 d_motor2_10), (cAI g a_change 8 d_change2_6), (cAI g a_leftArc 8 uf_23), (cAI g a_died 8 uf_22), (cAI g a_arcs 2 uf_21)] [(cAI g a_st 44 d_st), (cAI g a_from 8 d_from2_8), (cAI g a_begin 8 d_begin2_4), (cAI g a_startFrame 8 d_startFrame2_12), (cAI g a_changeFrame 8 d_changeFrame2_7), (cAI g a_lostAt 8 d_lostAt2_9), (cAI g a_blackAt 8 d_blackAt2_5), (cAI g a_slips 8 d_slips2_11)] [3, 4, 8, 9, 0, 1, 2] [5, 6, 7, 10, 11, 12, 13, 14] (m_burn l g h0 u_26 m_thrown2_1 a_tape m_taped m_size m_at m_end m_token m_whole m_nameSize m_fault m_place m_trouble2_2 a_letters m_failed m_hasHouse a_r a_fresh a_st a_undone a_kept m_undos m_images a_from a_begin a_motor a_change a_startFrame a_changeFrame a_lostAt a_blackAt a_slips a_leftArc a_died a_arcs m_bestSum m_nearest m_nearestTown a_there a_backAt a_sorted a_parts m_seed1 m_darkNow d_r d_motor2_10 d_change2_6 uf_23 uf_22 uf_21 hp_d_r) dX11_never_56 mw1050 mw1051 mw1052 mw5 mw1053 rfl 11 rfl rfl 0 _ rfl yk_yX11_burn_1 rfl (Nat.le_of_ble_eq_true rfl) (Nat.le_of_ble_eq_true rfl) (Nat.le_of_ble_eq_true rfl) (Nat.le_of_ble_eq_true rfl) (Nat.le_of_ble_eq_true rfl) rfl rfl (by decide +kernel) rfl (by decide +kernel) (by decide +kernel) ?_
        rintro r_46 w ⟨d_arcs2_43, d_died2_44, d_leftArc2_45, iv_47, rfl⟩
        refine k_ws [(cAI g a_st 44 d_st), (cAI g a_from 8 d_from2_8), (cAI g a_begin 8 d_begin2_4), (cAI g a_startFrame 8 d_startFrame2_12), (cAI g a_changeFrame 8 d_changeFrame2_7), (cAI g a_lostAt 8 d_lostAt2_9), (cAI g a_blackAt 8 d_blackAt2_5), (cAI g a_slips 8 d_slips2_11), (cO11_i1r1i10r1i2r5i2r12i3r4i2 h0 m_thrown2_1 a_tape m_taped m_size m_at m_end m_token m_whole m_nameSize m_fault m_place m_trouble2_2 a_letters m_failed m_hasHouse a_r a_fresh a_st a_undone a_kept m_undos m_images a_from a_begin a_motor a_change a_startFrame a_changeFrame a_lostAt a_blackAt a_slips a_leftArc a_died a_arcs m_bestSum m_nearest m_nearestTown a_there a_backAt a_sorted a_parts m_seed1 m_darkNow), (cAI g a_r 311 d_r), (cAI g a_motor 8 d_motor2_10), (cAI g a_change 8 d_change2_6), (cAI g a_leftArc 8 d_leftArc2_45), (cAI g a_died 8 d_died2_44), (cAI g a_arcs 2 d_arcs2_43)] rfl ?_
        refine k_if_eq 64 X dX11_never_59 (by decide) (fun h_48 => ?_) (fun h_48 => ?_)
        · skip
          have iv_49 : IV r_46 0 0 := iv_meet iv_47 (iv_e h_48 (show IV 0 0 0 from (by decide))) (by decide) (by decide)
          obtain ⟨z_50, ez_50⟩ : ∃ y : Int32, u_26 + Int32.ofInt 1 = y := ⟨_, rfl⟩
          refine k_iinc z_50 [(3, .int z_50), (2, .int u_24), (0, .ref h0), (1, .int p0)] 0 X dX11_never_64 rfl ez_50 (by decide) rfl ?_
          have i_51 : z_50.toInt = u_26.toInt + 1 := in_inc ez_50 (by decide) iv_40 (by decide) (by decide)
          have iv_52 : IV z_50 1 256 := iz1 i_51 iv_40 (by decide) (by decide)
          refine k_goto 24 X dX11_never_67 (by decide) ?_
          refine k_sub [(cAI g a_leftArc 8 d_leftArc2_45), (cAI g a_died 8 d_died2_44), (cAI g a_arcs 2 d_arcs2_43), (cO11_i1r1i10r1i2r5i2r12i3r4i2 h0 m_thrown2_1 a_tape m_taped m_size m_at m_end m_token m_whole m_nameSize m_fault m_place m_trouble2_2 a_letters m_failed m_hasHouse a_r a_fresh a_st a_undone a_kept m_undos m_images a_from a_begin a_motor a_change a_startFrame a_changeFrame a_lostAt a_blackAt a_slips a_leftArc a_died a_arcs m_bestSum m_nearest m_nearestTown a_there a_backAt a_sorted a_parts m_seed1 m_darkNow), (cAI g a_r 311 d_r), (cAI g a_st 44 d_st), (cAI g a_from 8 d_from2_8), (cAI g a_begin 8 d_begin2_4), (cAI g a_motor 8 d_motor2_10), (cAI g a_change 8 d_change2_6), (cAI g a_startFrame 8 d_startFrame2_12), (cAI g a_changeFrame 8 d_changeFrame2_7), (cAI g a_lostAt 8 d_lostAt2_9), (cAI g a_blackAt 8 d_blackAt2_5), (cAI g a_slips 8 d_slips2_11)] [12, 13, 14, 8, 9, 0, 1, 2, 10, 11, 3, 4, 5, 6, 7] rfl (by decide) rfl ?_
          exact ih_30 _ (by omega) d_arcs2_43 d_died2_44 d_leftArc2_45 u_24 z_50 rfl (iv_w iv_42 (by decide) (by decide)) (iv_w iv_52 (by decide) (by decide))
        · skip
          have iv_53 : IV r_46 1 1 := iv_neL h_48 iv_47 (show IV 0 0 0 from (by decide)) (by decide)
          refine k_iload_n X dX11_never_62 0 rfl ?_
          refine k_istore_n [(2, .int u_26), (3, .int u_26), (0, .ref h0), (1, .int p0)] X dX11_never_63 (by decide) rfl ?_
          obtain ⟨z_54, ez_54⟩ : ∃ y : Int32, u_26 + Int32.ofInt 1 = y := ⟨_, rfl⟩
          refine k_iinc z_54 [(3, .int z_54), (2, .int u_26), (0, .ref h0), (1, .int p0)] 1 X dX11_never_64 rfl ez_54 (by decide) rfl ?_
          have i_55 : z_54.toInt = u_26.toInt + 1 := in_inc ez_54 (by decide) iv_40 (by decide) (by decide)
          have iv_56 : IV z_54 1 256 := iz1 i_55 iv_40 (by decide) (by decide)
          refine k_goto 24 X dX11_never_67 (by decide) ?_
          refine k_sub [(cAI g a_leftArc 8 d_leftArc2_45), (cAI g a_died 8 d_died2_44), (cAI g a_arcs 2 d_arcs2_43), (cO11_i1r1i10r1i2r5i2r12i3r4i2 h0 m_thrown2_1 a_tape m_taped m_size m_at m_end m_token m_whole m_nameSize m_fault m_place m_trouble2_2 a_letters m_failed m_hasHouse a_r a_fresh a_st a_undone a_kept m_undos m_images a_from a_begin a_motor a_change a_startFrame a_changeFrame a_lostAt a_blackAt a_slips a_leftArc a_died a_arcs m_bestSum m_nearest m_nearestTown a_there a_backAt a_sorted a_parts m_seed1 m_darkNow), (cAI g a_r 311 d_r), (cAI g a_st 44 d_st), (cAI g a_from 8 d_from2_8), (cAI g a_begin 8 d_begin2_4), (cAI g a_motor 8 d_motor2_10), (cAI g a_change 8 d_change2_6), (cAI g a_startFrame 8 d_startFrame2_12), (cAI g a_changeFrame 8 d_changeFrame2_7), (cAI g a_lostAt 8 d_lostAt2_9), (cAI g a_blackAt 8 d_blackAt2_5), (cAI g a_slips 8 d_slips2_11)] [12, 13, 14, 8, 9, 0, 1, 2, 10, 11, 3, 4, 5, 6, 7] rfl (by decide) rfl ?_
          exact ih_30 _ (by omega) d_arcs2_43 d_died2_44 d_leftArc2_45 u_26 z_54 rfl (iv_w iv_40 (by decide) (by decide)) (iv_w iv_56 (by decide) (by decide))
      · skip
        have iv_57 : IV u_24 (-1) 255 := iv_neL h_41 hv_25 (show IV (-2) (-2) (-2) from (by decide)) (by decide)
        refine k_iload_n X dX11_never_43 0 rfl ?_
        refine k_callSI (n := 1) (As := [.int u_26]) (st := []) X [] [(cAI g a_leftArc 8 uf_23), (cAI g a_died 8 uf_22), (cAI g a_arcs 2 uf_21), (cO11_i1r1i10r1i2r5i2r12i3r4i2 h0 m_thrown2_1 a_tape m_taped m_size m_at m_end m_token m_whole m_nameSize m_fault m_place m_trouble2_2 a_letters m_failed m_hasHouse a_r a_fresh a_st a_undone a_kept m_undos m_images a_from a_begin a_motor a_change a_startFrame a_changeFrame a_lostAt a_blackAt a_slips a_leftArc a_died a_arcs m_bestSum m_nearest m_nearestTown a_there a_backAt a_sorted a_parts m_seed1 m_darkNow), (cAI g a_r 311 d_r), (cAI g a_st 44 d_st), (cAI g a_from 8 d_from2_8), (cAI g a_begin 8 d_begin2_4), (cAI g a_motor 8 d_motor2_10), (cAI g a_change 8 d_change2_6), (cAI g a_startFrame 8 d_startFrame2_12), (cAI g a_changeFrame 8 d_changeFrame2_7), (cAI g a_lostAt 8 d_lostAt2_9), (cAI g a_blackAt 8 d_blackAt2_5), (cAI g a_slips 8 d_slips2_11)] [] [0, 1, 2, 3, 4, 5, 6, 7, 8, 9, 10, 11, 12, 13, 14] (m_ones l g u_26) dX11_never_44 mw1110 mw1111 mw5 mw1112 yk_yX11_ones_1 rfl (Nat.le_of_ble_eq_true rfl) (Nat.le_of_ble_eq_true rfl) (Nat.le_of_ble_eq_true rfl) (Nat.le_of_ble_eq_true rfl) (Nat.le_of_ble_eq_true rfl) rfl rfl (by decide +kernel) rfl (by decide +kernel) (by decide +kernel) ?_
        rintro r_58 w rfl
        refine k_ws [(cAI g a_leftArc 8 uf_23), (cAI g a_died 8 uf_22), (cAI g a_arcs 2 uf_21), (cO11_i1r1i10r1i2r5i2r12i3r4i2 h0 m_thrown2_1 a_tape m_taped m_size m_at m_end m_token m_whole m_nameSize m_fault m_place m_trouble2_2 a_letters m_failed m_hasHouse a_r a_fresh a_st a_undone a_kept m_undos m_images a_from a_begin a_motor a_change a_startFrame a_changeFrame a_lostAt a_blackAt a_slips a_leftArc a_died a_arcs m_bestSum m_nearest m_nearestTown a_there a_backAt a_sorted a_parts m_seed1 m_darkNow), (cAI g a_r 311 d_r), (cAI g a_st 44 d_st), (cAI g a_from 8 d_from2_8), (cAI g a_begin 8 d_begin2_4), (cAI g a_motor 8 d_motor2_10), (cAI g a_change 8 d_change2_6), (cAI g a_startFrame 8 d_startFrame2_12), (cAI g a_changeFrame 8 d_changeFrame2_7), (cAI g a_lostAt 8 d_lostAt2_9), (cAI g a_blackAt 8 d_blackAt2_5), (cAI g a_slips 8 d_slips2_11)] rfl ?_
        refine k_iload_n X dX11_never_47 1 rfl ?_
        refine k_callSI (n := 1) (As := [.int u_24]) (st := [.int r_58]) X [] [(cAI g a_leftArc 8 uf_23), (cAI g a_died 8 uf_22), (cAI g a_arcs 2 uf_21), (cO11_i1r1i10r1i2r5i2r12i3r4i2 h0 m_thrown2_1 a_tape m_taped m_size m_at m_end m_token m_whole m_nameSize m_fault m_place m_trouble2_2 a_letters m_failed m_hasHouse a_r a_fresh a_st a_undone a_kept m_undos m_images a_from a_begin a_motor a_change a_startFrame a_changeFrame a_lostAt a_blackAt a_slips a_leftArc a_died a_arcs m_bestSum m_nearest m_nearestTown a_there a_backAt a_sorted a_parts m_seed1 m_darkNow), (cAI g a_r 311 d_r), (cAI g a_st 44 d_st), (cAI g a_from 8 d_from2_8), (cAI g a_begin 8 d_begin2_4), (cAI g a_motor 8 d_motor2_10), (cAI g a_change 8 d_change2_6), (cAI g a_startFrame 8 d_startFrame2_12), (cAI g a_changeFrame 8 d_changeFrame2_7), (cAI g a_lostAt 8 d_lostAt2_9), (cAI g a_blackAt 8 d_blackAt2_5), (cAI g a_slips 8 d_slips2_11)] [] [0, 1, 2, 3, 4, 5, 6, 7, 8, 9, 10, 11, 12, 13, 14] (m_ones l g u_24) dX11_never_48 mw1110 mw1111 mw5 mw1112 yk_yX11_ones_1 rfl (Nat.le_of_ble_eq_true rfl) (Nat.le_of_ble_eq_true rfl) (Nat.le_of_ble_eq_true rfl) (Nat.le_of_ble_eq_true rfl) (Nat.le_of_ble_eq_true rfl) rfl rfl (by decide +kernel) rfl (by decide +kernel) (by decide +kernel) ?_
        rintro r_59 w rfl
        refine k_ws [(cAI g a_leftArc 8 uf_23), (cAI g a_died 8 uf_22), (cAI g a_arcs 2 uf_21), (cO11_i1r1i10r1i2r5i2r12i3r4i2 h0 m_thrown2_1 a_tape m_taped m_size m_at m_end m_token m_whole m_nameSize m_fault m_place m_trouble2_2 a_letters m_failed m_hasHouse a_r a_fresh a_st a_undone a_kept m_undos m_images a_from a_begin a_motor a_change a_startFrame a_changeFrame a_lostAt a_blackAt a_slips a_leftArc a_died a_arcs m_bestSum m_nearest m_nearestTown a_there a_backAt a_sorted a_parts m_seed1 m_darkNow), (cAI g a_r 311 d_r), (cAI g a_st 44 d_st), (cAI g a_from 8 d_from2_8), (cAI g a_begin 8 d_begin2_4), (cAI g a_motor 8 d_motor2_10), (cAI g a_change 8 d_change2_6), (cAI g a_startFrame 8 d_startFrame2_12), (cAI g a_changeFrame 8 d_changeFrame2_7), (cAI g a_lostAt 8 d_lostAt2_9), (cAI g a_blackAt 8 d_blackAt2_5), (cAI g a_slips 8 d_slips2_11)] rfl ?_
        refine k_ic_ge 64 X dX11_never_51 (by decide) (fun h_60 => ?_) (fun h_60 => ?_)
        · skip
          have j_61 : r_59.toInt ≤ r_58.toInt := iv_le h_60
          obtain ⟨z_62, ez_62⟩ : ∃ y : Int32, u_26 + Int32.ofInt 1 = y := ⟨_, rfl⟩
          refine k_iinc z_62 [(3, .int z_62), (2, .int u_24), (0, .ref h0), (1, .int p0)] 0 X dX11_never_64 rfl ez_62 (by decide) rfl ?_
          have i_63 : z_62.toInt = u_26.toInt + 1 := in_inc ez_62 (by decide) iv_40 (by decide) (by decide)
          have iv_64 : IV z_62 1 256 := iz1 i_63 iv_40 (by decide) (by decide)
          refine k_goto 24 X dX11_never_67 (by decide) ?_
          exact ih_30 _ (by omega) uf_21 uf_22 uf_23 u_24 z_62 rfl (iv_w iv_57 (by decide) (by decide)) (iv_w iv_64 (by decide) (by decide))
        · skip
          have j_65 : r_58.toInt < r_59.toInt := iv_nle h_60
          have iv_66 : IV r_58 (-2147483648) 2147483646 := iv_ltL (iv_nle h_60) (iv_any r_58) (iv_any r_59) (by decide)
          have iv_67 : IV r_59 (-2147483647) 2147483647 := iv_ltR (iv_nle h_60) (iv_any r_58) (iv_any r_59) (by decide)
          refine k_aload_n X dX11_never_54 2 rfl ?_
          refine k_iload_n X dX11_never_55 0 rfl ?_
          refine k_callVI (n := 1) (As := [.int u_26]) (st := []) X [(cO11_i1r1i10r1i2r5i2r12i3r4i2 h0 m_thrown2_1 a_tape m_taped m_size m_at m_end m_token m_whole m_nameSize m_fault m_place m_trouble2_2 a_letters m_failed m_hasHouse a_r a_fresh a_st a_undone a_kept m_undos m_images a_from a_begin a_motor a_change a_startFrame a_changeFrame a_lostAt a_blackAt a_slips a_leftArc a_died a_arcs m_bestSum m_nearest m_nearestTown a_there a_backAt a_sorted a_parts m_seed1 m_darkNow), (cAI g a_r 311 d_r), (cAI g a_motor 8 d_motor2_10), (cAI g a_change 8 d_change2_6), (cAI g a_leftArc 8 uf_23), (cAI g a_died 8 uf_22), (cAI g a_arcs 2 uf_21)] [(cAI g a_st 44 d_st), (cAI g a_from 8 d_from2_8), (cAI g a_begin 8 d_begin2_4), (cAI g a_startFrame 8 d_startFrame2_12), (cAI g a_changeFrame 8 d_changeFrame2_7), (cAI g a_lostAt 8 d_lostAt2_9), (cAI g a_blackAt 8 d_blackAt2_5), (cAI g a_slips 8 d_slips2_11)] [3, 4, 8, 9, 0, 1, 2] [5, 6, 7, 10, 11, 12, 13, 14] (m_burn l g h0 u_26 m_thrown2_1 a_tape m_taped m_size m_at m_end m_token m_whole m_nameSize m_fault m_place m_trouble2_2 a_letters m_failed m_hasHouse a_r a_fresh a_st a_undone a_kept m_undos m_images a_from a_begin a_motor a_change a_startFrame a_changeFrame a_lostAt a_blackAt a_slips a_leftArc a_died a_arcs m_bestSum m_nearest m_nearestTown a_there a_backAt a_sorted a_parts m_seed1 m_darkNow d_r d_motor2_10 d_change2_6 uf_23 uf_22 uf_21 hp_d_r) dX11_never_56 mw1050 mw1051 mw1052 mw5 mw1053 rfl 11 rfl rfl 0 _ rfl yk_yX11_burn_1 rfl (Nat.le_of_ble_eq_true rfl) (Nat.le_of_ble_eq_true rfl) (Nat.le_of_ble_eq_true rfl) (Nat.le_of_ble_eq_true rfl) (Nat.le_of_ble_eq_true rfl) rfl rfl (by decide +kernel) rfl (by decide +kernel) (by decide +kernel) ?_
          rintro r_71 w ⟨d_arcs2_68, d_died2_69, d_leftArc2_70, iv_72, rfl⟩
          refine k_ws [(cAI g a_st 44 d_st), (cAI g a_from 8 d_from2_8), (cAI g a_begin 8 d_begin2_4), (cAI g a_startFrame 8 d_startFrame2_12), (cAI g a_changeFrame 8 d_changeFrame2_7), (cAI g a_lostAt 8 d_lostAt2_9), (cAI g a_blackAt 8 d_blackAt2_5), (cAI g a_slips 8 d_slips2_11), (cO11_i1r1i10r1i2r5i2r12i3r4i2 h0 m_thrown2_1 a_tape m_taped m_size m_at m_end m_token m_whole m_nameSize m_fault m_place m_trouble2_2 a_letters m_failed m_hasHouse a_r a_fresh a_st a_undone a_kept m_undos m_images a_from a_begin a_motor a_change a_startFrame a_changeFrame a_lostAt a_blackAt a_slips a_leftArc a_died a_arcs m_bestSum m_nearest m_nearestTown a_there a_backAt a_sorted a_parts m_seed1 m_darkNow), (cAI g a_r 311 d_r), (cAI g a_motor 8 d_motor2_10), (cAI g a_change 8 d_change2_6), (cAI g a_leftArc 8 d_leftArc2_70), (cAI g a_died 8 d_died2_69), (cAI g a_arcs 2 d_arcs2_68)] rfl ?_
          refine k_if_eq 64 X dX11_never_59 (by decide) (fun h_73 => ?_) (fun h_73 => ?_)
          · skip
            have iv_74 : IV r_71 0 0 := iv_meet iv_72 (iv_e h_73 (show IV 0 0 0 from (by decide))) (by decide) (by decide)
            obtain ⟨z_75, ez_75⟩ : ∃ y : Int32, u_26 + Int32.ofInt 1 = y := ⟨_, rfl⟩
            refine k_iinc z_75 [(3, .int z_75), (2, .int u_24), (0, .ref h0), (1, .int p0)] 0 X dX11_never_64 rfl ez_75 (by decide) rfl ?_
            have i_76 : z_75.toInt = u_26.toInt + 1 := in_inc ez_75 (by decide) iv_40 (by decide) (by decide)
            have iv_77 : IV z_75 1 256 := iz1 i_76 iv_40 (by decide) (by decide)
            refine k_goto 24 X dX11_never_67 (by decide) ?_
            refine k_sub [(cAI g a_leftArc 8 d_leftArc2_70), (cAI g a_died 8 d_died2_69), (cAI g a_arcs 2 d_arcs2_68), (cO11_i1r1i10r1i2r5i2r12i3r4i2 h0 m_thrown2_1 a_tape m_taped m_size m_at m_end m_token m_whole m_nameSize m_fault m_place m_trouble2_2 a_letters m_failed m_hasHouse a_r a_fresh a_st a_undone a_kept m_undos m_images a_from a_begin a_motor a_change a_startFrame a_changeFrame a_lostAt a_blackAt a_slips a_leftArc a_died a_arcs m_bestSum m_nearest m_nearestTown a_there a_backAt a_sorted a_parts m_seed1 m_darkNow), (cAI g a_r 311 d_r), (cAI g a_st 44 d_st), (cAI g a_from 8 d_from2_8), (cAI g a_begin 8 d_begin2_4), (cAI g a_motor 8 d_motor2_10), (cAI g a_change 8 d_change2_6), (cAI g a_startFrame 8 d_startFrame2_12), (cAI g a_changeFrame 8 d_changeFrame2_7), (cAI g a_lostAt 8 d_lostAt2_9), (cAI g a_blackAt 8 d_blackAt2_5), (cAI g a_slips 8 d_slips2_11)] [12, 13, 14, 8, 9, 0, 1, 2, 10, 11, 3, 4, 5, 6, 7] rfl (by decide) rfl ?_
            exact ih_30 _ (by omega) d_arcs2_68 d_died2_69 d_leftArc2_70 u_24 z_75 rfl (iv_w iv_57 (by decide) (by decide)) (iv_w iv_77 (by decide) (by decide))
          · skip
            have iv_78 : IV r_71 1 1 := iv_neL h_73 iv_72 (show IV 0 0 0 from (by decide)) (by decide)
            refine k_iload_n X dX11_never_62 0 rfl ?_
            refine k_istore_n [(2, .int u_26), (3, .int u_26), (0, .ref h0), (1, .int p0)] X dX11_never_63 (by decide) rfl ?_
            obtain ⟨z_79, ez_79⟩ : ∃ y : Int32, u_26 + Int32.ofInt 1 = y := ⟨_, rfl⟩
            refine k_iinc z_79 [(3, .int z_79), (2, .int u_26), (0, .ref h0), (1, .int p0)] 1 X dX11_never_64 rfl ez_79 (by decide) rfl ?_
            have i_80 : z_79.toInt = u_26.toInt + 1 := in_inc ez_79 (by decide) iv_40 (by decide) (by decide)
            have iv_81 : IV z_79 1 256 := iz1 i_80 iv_40 (by decide) (by decide)
            refine k_goto 24 X dX11_never_67 (by decide) ?_
            refine k_sub [(cAI g a_leftArc 8 d_leftArc2_70), (cAI g a_died 8 d_died2_69), (cAI g a_arcs 2 d_arcs2_68), (cO11_i1r1i10r1i2r5i2r12i3r4i2 h0 m_thrown2_1 a_tape m_taped m_size m_at m_end m_token m_whole m_nameSize m_fault m_place m_trouble2_2 a_letters m_failed m_hasHouse a_r a_fresh a_st a_undone a_kept m_undos m_images a_from a_begin a_motor a_change a_startFrame a_changeFrame a_lostAt a_blackAt a_slips a_leftArc a_died a_arcs m_bestSum m_nearest m_nearestTown a_there a_backAt a_sorted a_parts m_seed1 m_darkNow), (cAI g a_r 311 d_r), (cAI g a_st 44 d_st), (cAI g a_from 8 d_from2_8), (cAI g a_begin 8 d_begin2_4), (cAI g a_motor 8 d_motor2_10), (cAI g a_change 8 d_change2_6), (cAI g a_startFrame 8 d_startFrame2_12), (cAI g a_changeFrame 8 d_changeFrame2_7), (cAI g a_lostAt 8 d_lostAt2_9), (cAI g a_blackAt 8 d_blackAt2_5), (cAI g a_slips 8 d_slips2_11)] [12, 13, 14, 8, 9, 0, 1, 2, 10, 11, 3, 4, 5, 6, 7] rfl (by decide) rfl ?_
            exact ih_30 _ (by omega) d_arcs2_68 d_died2_69 d_leftArc2_70 u_26 z_79 rfl (iv_w iv_40 (by decide) (by decide)) (iv_w iv_81 (by decide) (by decide))
  · skip
    have iv_82 : IV r_13 0 0 := iv_meet iv_14 (iv_e h_16 (show IV 0 0 0 from (by decide))) (by decide) (by decide)
    refine k_aload_n X dX11_never_13 0 rfl ?_
    refine k_iconst (v := 1) X dX11_never_14 (by decide) ?_
    refine k_callVI (n := 1) (As := [.int 1]) (st := []) X [(cO11_i1r1i10r1i2r5i2r12i3r4i2 h0 m_thrown2_1 a_tape m_taped m_size m_at m_end m_token m_whole m_nameSize m_fault m_place m_trouble2_2 a_letters m_failed m_hasHouse a_r a_fresh a_st a_undone a_kept m_undos m_images a_from a_begin a_motor a_change a_startFrame a_changeFrame a_lostAt a_blackAt a_slips a_leftArc a_died a_arcs m_bestSum m_nearest m_nearestTown a_there a_backAt a_sorted a_parts m_seed1 m_darkNow)] [(cAI g a_leftArc 8 d_leftArc), (cAI g a_died 8 d_died), (cAI g a_arcs 2 d_arcs), (cAI g a_r 311 d_r), (cAI g a_st 44 d_st), (cAI g a_from 8 d_from2_8), (cAI g a_begin 8 d_begin2_4), (cAI g a_motor 8 d_motor2_10), (cAI g a_change 8 d_change2_6), (cAI g a_startFrame 8 d_startFrame2_12), (cAI g a_changeFrame 8 d_changeFrame2_7), (cAI g a_lostAt 8 d_lostAt2_9), (cAI g a_blackAt 8 d_blackAt2_5), (cAI g a_slips 8 d_slips2_11)] [3] [0, 1, 2, 4, 5, 6, 7, 8, 9, 10, 11, 12, 13, 14] (m_no l g h0 1 m_thrown2_1 a_tape m_taped m_size m_at m_end m_token m_whole m_nameSize m_fault m_place m_trouble2_2 a_letters m_failed m_hasHouse a_r a_fresh a_st a_undone a_kept m_undos m_images a_from a_begin a_motor a_change a_startFrame a_changeFrame a_lostAt a_blackAt a_slips a_leftArc a_died a_arcs m_bestSum m_nearest m_nearestTown a_there a_backAt a_sorted a_parts m_seed1 m_darkNow) dX11_never_15 mw485 mw486 mw487 mw5 mw488 rfl 11 rfl rfl 0 _ rfl yk_yX11_no_1 rfl (Nat.le_of_ble_eq_true rfl) (Nat.le_of_ble_eq_true rfl) (Nat.le_of_ble_eq_true rfl) (Nat.le_of_ble_eq_true rfl) (Nat.le_of_ble_eq_true rfl) rfl rfl (by decide +kernel) rfl (by decide +kernel) (by decide +kernel) ?_
    rintro r_84 w ⟨m_trouble2_83, iv_85, rfl⟩
    refine k_ws [(cAI g a_leftArc 8 d_leftArc), (cAI g a_died 8 d_died), (cAI g a_arcs 2 d_arcs), (cAI g a_r 311 d_r), (cAI g a_st 44 d_st), (cAI g a_from 8 d_from2_8), (cAI g a_begin 8 d_begin2_4), (cAI g a_motor 8 d_motor2_10), (cAI g a_change 8 d_change2_6), (cAI g a_startFrame 8 d_startFrame2_12), (cAI g a_changeFrame 8 d_changeFrame2_7), (cAI g a_lostAt 8 d_lostAt2_9), (cAI g a_blackAt 8 d_blackAt2_5), (cAI g a_slips 8 d_slips2_11), (cO11_i1r1i10r1i2r5i2r12i3r4i2 h0 m_thrown2_1 a_tape m_taped m_size m_at m_end m_token m_whole m_nameSize m_fault m_place m_trouble2_83 a_letters m_failed m_hasHouse a_r a_fresh a_st a_undone a_kept m_undos m_images a_from a_begin a_motor a_change a_startFrame a_changeFrame a_lostAt a_blackAt a_slips a_leftArc a_died a_arcs m_bestSum m_nearest m_nearestTown a_there a_backAt a_sorted a_parts m_seed1 m_darkNow)] rfl ?_
    exact k_iret X hr dX11_never_18 (Nat.le_of_ble_eq_true rfl) (Nat.le_of_ble_eq_true rfl) [14, 3, 4, 5, 6, 7, 8, 9, 10, 11, 12, 13, 0, 1, 2] (by decide) rfl rfl ⟨d_arcs, d_begin2_4, d_blackAt2_5, d_change2_6, d_changeFrame2_7, d_died, d_from2_8, d_leftArc, d_lostAt2_9, d_motor2_10, d_slips2_11, d_startFrame2_12, m_thrown2_1, m_trouble2_83, rfl⟩
