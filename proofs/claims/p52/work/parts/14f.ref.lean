theorem dX11_boyWhy_0 : decode cX11_boyWhy 0 = .ok (.aload_n 0, 1) := dk_42 rfl
theorem dX11_boyWhy_1 : decode cX11_boyWhy 1 = .ok (.iload_n 1, 1) := dk_27 rfl
theorem dX11_boyWhy_2 : decode cX11_boyWhy 2 = .ok (.invokevirtual 370, 3) := dk_182 rfl rfl rfl rfl
theorem dX11_boyWhy_5 : decode cX11_boyWhy 5 = .ok (.ifCond .ne 7, 3) := dk_154 rfl rfl rfl (by decide)
theorem dX11_boyWhy_8 : decode cX11_boyWhy 8 = .ok (.iconst 1, 1) := dk_4 rfl
theorem dX11_boyWhy_9 : decode cX11_boyWhy 9 = .ok (.goto 20, 3) := dk_167 rfl rfl rfl (by decide)
theorem dX11_boyWhy_12 : decode cX11_boyWhy 12 = .ok (.aload_n 0, 1) := dk_42 rfl
theorem dX11_boyWhy_13 : decode cX11_boyWhy 13 = .ok (.getfield 20, 3) := dk_180 rfl rfl rfl rfl
theorem dX11_boyWhy_16 : decode cX11_boyWhy 16 = .ok (.sipush 134, 3) := dk_17 rfl rfl rfl (by decide)
theorem dX11_boyWhy_19 : decode cX11_boyWhy 19 = .ok (.iaload, 1) := dk_46 rfl
theorem dX11_boyWhy_20 : decode cX11_boyWhy 20 = .ok (.ifCond .ne 8, 3) := dk_154 rfl rfl rfl (by decide)
theorem dX11_boyWhy_23 : decode cX11_boyWhy 23 = .ok (.bipush 6, 2) := dk_16 rfl rfl (by decide)
theorem dX11_boyWhy_25 : decode cX11_boyWhy 25 = .ok (.goto 4, 3) := dk_167 rfl rfl rfl (by decide)
theorem dX11_boyWhy_28 : decode cX11_boyWhy 28 = .ok (.iconst 0, 1) := dk_3 rfl
theorem dX11_boyWhy_29 : decode cX11_boyWhy 29 = .ok (.ireturn, 1) := dk_172 rfl
set_option maxHeartbeats 4000000 in
set_option maxRecDepth 100000 in
theorem m_boyWhy (l : Launch) (g : Gx) (h0 : Nat) (p0 : Int32) (m_thrown : Int32) (a_tape : Nat) (m_taped : Int32) (m_size : Int32) (m_at : Int32) (m_end : Int32) (m_token : Int32) (m_whole : Int32) (m_nameSize : Int32) (m_fault : Int32) (m_place : Int32) (m_trouble : Int32) (a_letters : Nat) (m_failed : Int32) (m_hasHouse : Int32) (a_r : Nat) (a_fresh : Nat) (a_st : Nat) (a_undone : Nat) (a_kept : Nat) (m_undos : Int32) (m_images : Int32) (a_from : Nat) (a_begin : Nat) (a_motor : Nat) (a_change : Nat) (a_startFrame : Nat) (a_changeFrame : Nat) (a_lostAt : Nat) (a_blackAt : Nat) (a_slips : Nat) (a_leftArc : Nat) (a_died : Nat) (a_arcs : Nat) (m_bestSum : Int32) (m_nearest : Int32) (m_nearestTown : Int32) (a_there : Nat) (a_backAt : Nat) (a_sorted : Nat) (a_parts : Nat) (m_seed1 : Int32) (m_darkNow : Int32) (d_r : Nat → Int32) (hv_m_hasHouse : IV m_hasHouse 0 1) (hp_d_r : RInv d_r) : cI l g yX11_boyWhy cX11_boyWhy 2 (some .int) 2 43 0 0 [.ref h0, .int p0] [(cO11_i1r1i10r1i2r5i2r12i3r4i2 h0 m_thrown a_tape m_taped m_size m_at m_end m_token m_whole m_nameSize m_fault m_place m_trouble a_letters m_failed m_hasHouse a_r a_fresh a_st a_undone a_kept m_undos m_images a_from a_begin a_motor a_change a_startFrame a_changeFrame a_lostAt a_blackAt a_slips a_leftArc a_died a_arcs m_bestSum m_nearest m_nearestTown a_there a_backAt a_sorted a_parts m_seed1 m_darkNow), (cAI g a_r 311 d_r)] (fun r w => IV r 0 6 ∧ (r = 1 ∨ (IV p0 0 3)) ∧ w = [(cO11_i1r1i10r1i2r5i2r12i3r4i2 h0 m_thrown a_tape m_taped m_size m_at m_end m_token m_whole m_nameSize m_fault m_place m_trouble a_letters m_failed m_hasHouse a_r a_fresh a_st a_undone a_kept m_undos m_images a_from a_begin a_motor a_change a_startFrame a_changeFrame a_lostAt a_blackAt a_slips a_leftArc a_died a_arcs m_bestSum m_nearest m_nearestTown a_there a_backAt a_sorted a_parts m_seed1 m_darkNow), (cAI g a_r 311 d_r)]) := by
  refine cI.of (by decide) (Nat.le_of_ble_eq_true rfl) ?_
  intro p e s m args below meth c A X hr hi
  refine k_lveq [(0, .ref h0), (1, .int p0)] rfl ?_
  refine k_aload_n X dX11_boyWhy_0 0 rfl ?_
  refine k_iload_n X dX11_boyWhy_1 1 rfl ?_
  refine k_callVI (n := 1) (As := [.int p0]) (st := []) X [(cO11_i1r1i10r1i2r5i2r12i3r4i2 h0 m_thrown a_tape m_taped m_size m_at m_end m_token m_whole m_nameSize m_fault m_place m_trouble a_letters m_failed m_hasHouse a_r a_fresh a_st a_undone a_kept m_undos m_images a_from a_begin a_motor a_change a_startFrame a_changeFrame a_lostAt a_blackAt a_slips a_leftArc a_died a_arcs m_bestSum m_nearest m_nearestTown a_there a_backAt a_sorted a_parts m_seed1 m_darkNow), (cAI g a_r 311 d_r)] [] [0, 1] [] (m_isMan l g h0 p0 m_thrown a_tape m_taped m_size m_at m_end m_token m_whole m_nameSize m_fault m_place m_trouble a_letters m_failed m_hasHouse a_r a_fresh a_st a_undone a_kept m_undos m_images a_from a_begin a_motor a_change a_startFrame a_changeFrame a_lostAt a_blackAt a_slips a_leftArc a_died a_arcs m_bestSum m_nearest m_nearestTown a_there a_backAt a_sorted a_parts m_seed1 m_darkNow d_r (iv_w hv_m_hasHouse (by decide) (by decide)) hp_d_r) dX11_boyWhy_2 mw811 mw812 mw813 mw5 mw814 rfl 11 rfl rfl 0 _ rfl yk_yX11_isMan_1 rfl (Nat.le_of_ble_eq_true rfl) (Nat.le_of_ble_eq_true rfl) (Nat.le_of_ble_eq_true rfl) (Nat.le_of_ble_eq_true rfl) (Nat.le_of_ble_eq_true rfl) rfl rfl (by decide) rfl (by decide) (by decide) ?_
  rintro r_1 w ⟨iv_2, hk_3, rfl⟩
  refine k_ws [(cO11_i1r1i10r1i2r5i2r12i3r4i2 h0 m_thrown a_tape m_taped m_size m_at m_end m_token m_whole m_nameSize m_fault m_place m_trouble a_letters m_failed m_hasHouse a_r a_fresh a_st a_undone a_kept m_undos m_images a_from a_begin a_motor a_change a_startFrame a_changeFrame a_lostAt a_blackAt a_slips a_leftArc a_died a_arcs m_bestSum m_nearest m_nearestTown a_there a_backAt a_sorted a_parts m_seed1 m_darkNow), (cAI g a_r 311 d_r)] rfl ?_
  refine k_if_ne 12 X dX11_boyWhy_5 (by decide) (fun h_4 => ?_) (fun h_4 => ?_)
  · skip
    have hc_5 := hk_3.resolve_left h_4
    have iv_6 : IV p0 0 3 := iv_meet (iv_any p0) hc_5 (by decide) (by decide)
    have iv_7 : IV r_1 1 1 := iv_neL h_4 iv_2 (show IV 0 0 0 from (by decide)) (by decide)
    refine k_aload_n X dX11_boyWhy_12 0 rfl ?_
    refine k_get (ci := 11) X inlX11 rfl 15 (by decide) dX11_boyWhy_13 mw170 0 rfl rfl ?_
    refine k_sipush (v := 134) X dX11_boyWhy_16 (by decide) ?_
    refine k_iald X dX11_boyWhy_19 1 rfl (by unfold vp_in; decide) ?_
    refine k_nm (fun z_8 ez_8 => ?_)
    have i_9 : z_8.toInt = (d_r 134).toInt := by rw [ez_8]; rfl
    have iv_10 : IV z_8 0 4 := rb_134 ez_8 hp_d_r
    refine k_if_ne 28 X dX11_boyWhy_20 (by decide) (fun h_11 => ?_) (fun h_11 => ?_)
    · skip
      have iv_12 : IV z_8 1 4 := iv_neL h_11 iv_10 (show IV 0 0 0 from (by decide)) (by decide)
      refine k_iconst (v := 0) X dX11_boyWhy_28 (by decide) ?_
      exact k_iret X hr dX11_boyWhy_29 (Nat.le_of_ble_eq_true rfl) (Nat.le_of_ble_eq_true rfl) [0, 1] (by decide) rfl rfl ⟨(iv_w (show IV 0 0 0 from (by decide)) (by decide) (by decide)), (Or.inr (iv_w iv_6 (by decide) (by decide))), rfl⟩
    · skip
      have iv_13 : IV z_8 0 0 := iv_meet iv_10 (iv_e h_11 (show IV 0 0 0 from (by decide))) (by decide) (by decide)
      refine k_bipush (v := 6) X dX11_boyWhy_23 (by decide) ?_
      refine k_goto 29 X dX11_boyWhy_25 (by decide) ?_
      exact k_iret X hr dX11_boyWhy_29 (Nat.le_of_ble_eq_true rfl) (Nat.le_of_ble_eq_true rfl) [0, 1] (by decide) rfl rfl ⟨(iv_w (show IV 6 6 6 from (by decide)) (by decide) (by decide)), (Or.inr (iv_w iv_6 (by decide) (by decide))), rfl⟩
  · skip
    have iv_14 : IV r_1 0 0 := iv_meet iv_2 (iv_e h_4 (show IV 0 0 0 from (by decide))) (by decide) (by decide)
    refine k_iconst (v := 1) X dX11_boyWhy_8 (by decide) ?_
    refine k_goto 29 X dX11_boyWhy_9 (by decide) ?_
    exact k_iret X hr dX11_boyWhy_29 (Nat.le_of_ble_eq_true rfl) (Nat.le_of_ble_eq_true rfl) [0, 1] (by decide) rfl rfl ⟨(iv_w (show IV 1 1 1 from (by decide)) (by decide) (by decide)), (Or.inl (iv_eq (show IV 1 1 1 from (by decide)) (show IV 1 1 1 from (by decide)))), rfl⟩

theorem dX11_apart_0 : decode cX11_apart 0 = .ok (.aload_n 0, 1) := dk_42 rfl
theorem dX11_apart_1 : decode cX11_apart 1 = .ok (.invokevirtual 200, 3) := dk_182 rfl rfl rfl rfl
theorem dX11_apart_4 : decode cX11_apart 4 = .ok (.aload_n 0, 1) := dk_42 rfl
theorem dX11_apart_5 : decode cX11_apart 5 = .ok (.iload_n 1, 1) := dk_27 rfl
theorem dX11_apart_6 : decode cX11_apart 6 = .ok (.invokevirtual 446, 3) := dk_182 rfl rfl rfl rfl
theorem dX11_apart_9 : decode cX11_apart 9 = .ok (.istore_n 3, 1) := dk_62 rfl
theorem dX11_apart_10 : decode cX11_apart 10 = .ok (.iload_n 3, 1) := dk_29 rfl
theorem dX11_apart_11 : decode cX11_apart 11 = .ok (.ifCond .eq 9, 3) := dk_153 rfl rfl rfl (by decide)
theorem dX11_apart_14 : decode cX11_apart 14 = .ok (.aload_n 0, 1) := dk_42 rfl
theorem dX11_apart_15 : decode cX11_apart 15 = .ok (.iload_n 3, 1) := dk_29 rfl
theorem dX11_apart_16 : decode cX11_apart 16 = .ok (.invokevirtual 203, 3) := dk_182 rfl rfl rfl rfl
theorem dX11_apart_19 : decode cX11_apart 19 = .ok (.ireturn, 1) := dk_172 rfl
theorem dX11_apart_20 : decode cX11_apart 20 = .ok (.iload_n 2, 1) := dk_28 rfl
theorem dX11_apart_21 : decode cX11_apart 21 = .ok (.iconst 0, 1) := dk_3 rfl
theorem dX11_apart_22 : decode cX11_apart 22 = .ok (.iconst 4, 1) := dk_7 rfl
theorem dX11_apart_23 : decode cX11_apart 23 = .ok (.invokestatic 182, 3) := dk_184 rfl rfl rfl rfl
theorem dX11_apart_26 : decode cX11_apart 26 = .ok (.ifCond .eq 27, 3) := dk_153 rfl rfl rfl (by decide)
theorem dX11_apart_29 : decode cX11_apart 29 = .ok (.aload_n 0, 1) := dk_42 rfl
theorem dX11_apart_30 : decode cX11_apart 30 = .ok (.iload_n 1, 1) := dk_27 rfl
theorem dX11_apart_31 : decode cX11_apart 31 = .ok (.iload_n 2, 1) := dk_28 rfl
theorem dX11_apart_32 : decode cX11_apart 32 = .ok (.ifCond .ne 14, 3) := dk_154 rfl rfl rfl (by decide)
theorem dX11_apart_35 : decode cX11_apart 35 = .ok (.aload_n 0, 1) := dk_42 rfl
theorem dX11_apart_36 : decode cX11_apart 36 = .ok (.getfield 20, 3) := dk_180 rfl rfl rfl rfl
theorem dX11_apart_39 : decode cX11_apart 39 = .ok (.sipush 134, 3) := dk_17 rfl rfl rfl (by decide)
theorem dX11_apart_42 : decode cX11_apart 42 = .ok (.iaload, 1) := dk_46 rfl
theorem dX11_apart_43 : decode cX11_apart 43 = .ok (.goto 4, 3) := dk_167 rfl rfl rfl (by decide)
theorem dX11_apart_46 : decode cX11_apart 46 = .ok (.iload_n 2, 1) := dk_28 rfl
theorem dX11_apart_47 : decode cX11_apart 47 = .ok (.invokevirtual 449, 3) := dk_182 rfl rfl rfl rfl
theorem dX11_apart_50 : decode cX11_apart 50 = .ok (.goto 8, 3) := dk_167 rfl rfl rfl (by decide)
theorem dX11_apart_53 : decode cX11_apart 53 = .ok (.aload_n 0, 1) := dk_42 rfl
theorem dX11_apart_54 : decode cX11_apart 54 = .ok (.iconst 2, 1) := dk_5 rfl
theorem dX11_apart_55 : decode cX11_apart 55 = .ok (.invokevirtual 203, 3) := dk_182 rfl rfl rfl rfl
theorem dX11_apart_58 : decode cX11_apart 58 = .ok (.ireturn, 1) := dk_172 rfl
set_option maxHeartbeats 4000000 in
set_option maxRecDepth 100000 in
theorem m_apart (l : Launch) (g : Gx) (h0 : Nat) (p0 : Int32) (p1 : Int32) (m_thrown : Int32) (a_tape : Nat) (m_taped : Int32) (m_size : Int32) (m_at : Int32) (m_end : Int32) (m_token : Int32) (m_whole : Int32) (m_nameSize : Int32) (m_fault : Int32) (m_place : Int32) (m_trouble : Int32) (a_letters : Nat) (m_failed : Int32) (m_hasHouse : Int32) (a_r : Nat) (a_fresh : Nat) (a_st : Nat) (a_undone : Nat) (a_kept : Nat) (m_undos : Int32) (m_images : Int32) (a_from : Nat) (a_begin : Nat) (a_motor : Nat) (a_change : Nat) (a_startFrame : Nat) (a_changeFrame : Nat) (a_lostAt : Nat) (a_blackAt : Nat) (a_slips : Nat) (a_leftArc : Nat) (a_died : Nat) (a_arcs : Nat) (m_bestSum : Int32) (m_nearest : Int32) (m_nearestTown : Int32) (a_there : Nat) (a_backAt : Nat) (a_sorted : Nat) (a_parts : Nat) (m_seed1 : Int32) (m_darkNow : Int32) (d_r : Nat → Int32) (d_st : Nat → Int32) (d_from : Nat → Int32) (d_begin : Nat → Int32) (d_motor : Nat → Int32) (d_change : Nat → Int32) (d_startFrame : Nat → Int32) (d_changeFrame : Nat → Int32) (d_lostAt : Nat → Int32) (d_blackAt : Nat → Int32) (d_slips : Nat → Int32) (d_there : Nat → Int32) (d_backAt : Nat → Int32) (hv_m_hasHouse : IV m_hasHouse 0 1) (hp_d_r : RInv d_r) : cI l g yX11_apart cX11_apart 4 (some .int) 7 159 0 0 [.ref h0, .int p0, .int p1] [(cO11_i1r1i10r1i2r5i2r12i3r4i2 h0 m_thrown a_tape m_taped m_size m_at m_end m_token m_whole m_nameSize m_fault m_place m_trouble a_letters m_failed m_hasHouse a_r a_fresh a_st a_undone a_kept m_undos m_images a_from a_begin a_motor a_change a_startFrame a_changeFrame a_lostAt a_blackAt a_slips a_leftArc a_died a_arcs m_bestSum m_nearest m_nearestTown a_there a_backAt a_sorted a_parts m_seed1 m_darkNow), (cAI g a_r 311 d_r), (cAI g a_st 44 d_st), (cAI g a_from 8 d_from), (cAI g a_begin 8 d_begin), (cAI g a_motor 8 d_motor), (cAI g a_change 8 d_change), (cAI g a_startFrame 8 d_startFrame), (cAI g a_changeFrame 8 d_changeFrame), (cAI g a_lostAt 8 d_lostAt), (cAI g a_blackAt 8 d_blackAt), (cAI g a_slips 8 d_slips), (cAI g a_there 8 d_there), (cAI g a_backAt 4 d_backAt)] (fun r w => ∃ (d_backAt2 : Nat → Int32) (d_begin2 : Nat → Int32) (d_blackAt2 : Nat → Int32) (d_change2 : Nat → Int32) (d_changeFrame2 : Nat → Int32) (d_from2 : Nat → Int32) (d_lostAt2 : Nat → Int32) (d_motor2 : Nat → Int32) (d_slips2 : Nat → Int32) (d_startFrame2 : Nat → Int32) (d_there2 : Nat → Int32) (m_thrown2 : Int32) (m_trouble2 : Int32), w = [(cO11_i1r1i10r1i2r5i2r12i3r4i2 h0 m_thrown2 a_tape m_taped m_size m_at m_end m_token m_whole m_nameSize m_fault m_place m_trouble2 a_letters m_failed m_hasHouse a_r a_fresh a_st a_undone a_kept m_undos m_images a_from a_begin a_motor a_change a_startFrame a_changeFrame a_lostAt a_blackAt a_slips a_leftArc a_died a_arcs m_bestSum m_nearest m_nearestTown a_there a_backAt a_sorted a_parts m_seed1 m_darkNow), (cAI g a_r 311 d_r), (cAI g a_st 44 d_st), (cAI g a_from 8 d_from2), (cAI g a_begin 8 d_begin2), (cAI g a_motor 8 d_motor2), (cAI g a_change 8 d_change2), (cAI g a_startFrame 8 d_startFrame2), (cAI g a_changeFrame 8 d_changeFrame2), (cAI g a_lostAt 8 d_lostAt2), (cAI g a_blackAt 8 d_blackAt2), (cAI g a_slips 8 d_slips2), (cAI g a_there 8 d_there2), (cAI g a_backAt 4 d_backAt2)]) := by
  refine cI.of (by decide) (Nat.le_of_ble_eq_true rfl) ?_
  intro p e s m args below meth c A X hr hi
  refine k_lveq [(0, .ref h0), (1, .int p0), (2, .int p1)] rfl ?_
  refine k_aload_n X dX11_apart_0 0 rfl ?_
  refine k_callVV (n := 0) (As := []) (st := []) X [(cO11_i1r1i10r1i2r5i2r12i3r4i2 h0 m_thrown a_tape m_taped m_size m_at m_end m_token m_whole m_nameSize m_fault m_place m_trouble a_letters m_failed m_hasHouse a_r a_fresh a_st a_undone a_kept m_undos m_images a_from a_begin a_motor a_change a_startFrame a_changeFrame a_lostAt a_blackAt a_slips a_leftArc a_died a_arcs m_bestSum m_nearest m_nearestTown a_there a_backAt a_sorted a_parts m_seed1 m_darkNow)] [(cAI g a_r 311 d_r), (cAI g a_st 44 d_st), (cAI g a_from 8 d_from), (cAI g a_begin 8 d_begin), (cAI g a_motor 8 d_motor), (cAI g a_change 8 d_change), (cAI g a_startFrame 8 d_startFrame), (cAI g a_changeFrame 8 d_changeFrame), (cAI g a_lostAt 8 d_lostAt), (cAI g a_blackAt 8 d_blackAt), (cAI g a_slips 8 d_slips), (cAI g a_there 8 d_there), (cAI g a_backAt 4 d_backAt)] [0] [1, 2, 3, 4, 5, 6, 7, 8, 9, 10, 11, 12, 13] (m_good l g h0 m_thrown a_tape m_taped m_size m_at m_end m_token m_whole m_nameSize m_fault m_place m_trouble a_letters m_failed m_hasHouse a_r a_fresh a_st a_undone a_kept m_undos m_images a_from a_begin a_motor a_change a_startFrame a_changeFrame a_lostAt a_blackAt a_slips a_leftArc a_died a_arcs m_bestSum m_nearest m_nearestTown a_there a_backAt a_sorted a_parts m_seed1 m_darkNow) dX11_apart_1 mw477 mw478 mw479 mw5 mw480 rfl 11 rfl rfl 0 _ rfl yk_yX11_good_0 rfl (Nat.le_of_ble_eq_true rfl) (Nat.le_of_ble_eq_true rfl) (Nat.le_of_ble_eq_true rfl) (Nat.le_of_ble_eq_true rfl) (Nat.le_of_ble_eq_true rfl) rfl rfl (by decide +kernel) rfl (by decide +kernel) (by decide +kernel) ?_
  rintro w ⟨m_thrown2_1, m_trouble2_2, rfl⟩
  refine k_ws [(cAI g a_r 311 d_r), (cAI g a_st 44 d_st), (cAI g a_from 8 d_from), (cAI g a_begin 8 d_begin), (cAI g a_motor 8 d_motor), (cAI g a_change 8 d_change), (cAI g a_startFrame 8 d_startFrame), (cAI g a_changeFrame 8 d_changeFrame), (cAI g a_lostAt 8 d_lostAt), (cAI g a_blackAt 8 d_blackAt), (cAI g a_slips 8 d_slips), (cAI g a_there 8 d_there), (cAI g a_backAt 4 d_backAt), (cO11_i1r1i10r1i2r5i2r12i3r4i2 h0 m_thrown2_1 a_tape m_taped m_size m_at m_end m_token m_whole m_nameSize m_fault m_place m_trouble2_2 a_letters m_failed m_hasHouse a_r a_fresh a_st a_undone a_kept m_undos m_images a_from a_begin a_motor a_change a_startFrame a_changeFrame a_lostAt a_blackAt a_slips a_leftArc a_died a_arcs m_bestSum m_nearest m_nearestTown a_there a_backAt a_sorted a_parts m_seed1 m_darkNow)] rfl ?_
  refine k_aload_n X dX11_apart_4 0 rfl ?_
  refine k_iload_n X dX11_apart_5 1 rfl ?_
  refine k_callVI (n := 1) (As := [.int p0]) (st := []) X [(cO11_i1r1i10r1i2r5i2r12i3r4i2 h0 m_thrown2_1 a_tape m_taped m_size m_at m_end m_token m_whole m_nameSize m_fault m_place m_trouble2_2 a_letters m_failed m_hasHouse a_r a_fresh a_st a_undone a_kept m_undos m_images a_from a_begin a_motor a_change a_startFrame a_changeFrame a_lostAt a_blackAt a_slips a_leftArc a_died a_arcs m_bestSum m_nearest m_nearestTown a_there a_backAt a_sorted a_parts m_seed1 m_darkNow), (cAI g a_r 311 d_r)] [(cAI g a_st 44 d_st), (cAI g a_from 8 d_from), (cAI g a_begin 8 d_begin), (cAI g a_motor 8 d_motor), (cAI g a_change 8 d_change), (cAI g a_startFrame 8 d_startFrame), (cAI g a_changeFrame 8 d_changeFrame), (cAI g a_lostAt 8 d_lostAt), (cAI g a_blackAt 8 d_blackAt), (cAI g a_slips 8 d_slips), (cAI g a_there 8 d_there), (cAI g a_backAt 4 d_backAt)] [13, 0] [1, 2, 3, 4, 5, 6, 7, 8, 9, 10, 11, 12] (m_boyWhy l g h0 p0 m_thrown2_1 a_tape m_taped m_size m_at m_end m_token m_whole m_nameSize m_fault m_place m_trouble2_2 a_letters m_failed m_hasHouse a_r a_fresh a_st a_undone a_kept m_undos m_images a_from a_begin a_motor a_change a_startFrame a_changeFrame a_lostAt a_blackAt a_slips a_leftArc a_died a_arcs m_bestSum m_nearest m_nearestTown a_there a_backAt a_sorted a_parts m_seed1 m_darkNow d_r (iv_w hv_m_hasHouse (by decide) (by decide)) hp_d_r) dX11_apart_6 mw1315 mw1316 mw1317 mw5 mw1318 rfl 11 rfl rfl 0 _ rfl yk_yX11_boyWhy_1 rfl (Nat.le_of_ble_eq_true rfl) (Nat.le_of_ble_eq_true rfl) (Nat.le_of_ble_eq_true rfl) (Nat.le_of_ble_eq_true rfl) (Nat.le_of_ble_eq_true rfl) rfl rfl (by decide +kernel) rfl (by decide +kernel) (by decide +kernel) ?_
  rintro r_4 w ⟨iv_5, hk_6, rfl⟩
  refine k_ws [(cAI g a_st 44 d_st), (cAI g a_from 8 d_from), (cAI g a_begin 8 d_begin), (cAI g a_motor 8 d_motor), (cAI g a_change 8 d_change), (cAI g a_startFrame 8 d_startFrame), (cAI g a_changeFrame 8 d_changeFrame), (cAI g a_lostAt 8 d_lostAt), (cAI g a_blackAt 8 d_blackAt), (cAI g a_slips 8 d_slips), (cAI g a_there 8 d_there), (cAI g a_backAt 4 d_backAt), (cO11_i1r1i10r1i2r5i2r12i3r4i2 h0 m_thrown2_1 a_tape m_taped m_size m_at m_end m_token m_whole m_nameSize m_fault m_place m_trouble2_2 a_letters m_failed m_hasHouse a_r a_fresh a_st a_undone a_kept m_undos m_images a_from a_begin a_motor a_change a_startFrame a_changeFrame a_lostAt a_blackAt a_slips a_leftArc a_died a_arcs m_bestSum m_nearest m_nearestTown a_there a_backAt a_sorted a_parts m_seed1 m_darkNow), (cAI g a_r 311 d_r)] rfl ?_
  refine k_istore_n [(3, .int r_4), (0, .ref h0), (1, .int p0), (2, .int p1)] X dX11_apart_9 (by decide) rfl ?_
  refine k_iload_n X dX11_apart_10 0 rfl ?_
  refine k_if_eq 20 X dX11_apart_11 (by decide) (fun h_7 => ?_) (fun h_7 => ?_)
  · skip
    have iv_8 : IV r_4 0 0 := iv_meet iv_5 (iv_e h_7 (show IV 0 0 0 from (by decide))) (by decide) (by decide)
    have hc_9 := hk_6.resolve_left (fun q => iv_eqN q iv_8 (show IV 1 1 1 from (by decide)) (by decide))
    have iv_10 : IV p0 0 3 := iv_meet (iv_any p0) hc_9 (by decide) (by decide)
    refine k_iload_n X dX11_apart_20 3 rfl ?_
    refine k_iconst (v := 0) X dX11_apart_21 (by decide) ?_
    refine k_iconst (v := 4) X dX11_apart_22 (by decide) ?_
    refine k_callSI (n := 3) (As := [.int p1, .int 0, .int 4]) (st := []) X [] [(cAI g a_st 44 d_st), (cAI g a_from 8 d_from), (cAI g a_begin 8 d_begin), (cAI g a_motor 8 d_motor), (cAI g a_change 8 d_change), (cAI g a_startFrame 8 d_startFrame), (cAI g a_changeFrame 8 d_changeFrame), (cAI g a_lostAt 8 d_lostAt), (cAI g a_blackAt 8 d_blackAt), (cAI g a_slips 8 d_slips), (cAI g a_there 8 d_there), (cAI g a_backAt 4 d_backAt), (cO11_i1r1i10r1i2r5i2r12i3r4i2 h0 m_thrown2_1 a_tape m_taped m_size m_at m_end m_token m_whole m_nameSize m_fault m_place m_trouble2_2 a_letters m_failed m_hasHouse a_r a_fresh a_st a_undone a_kept m_undos m_images a_from a_begin a_motor a_change a_startFrame a_changeFrame a_lostAt a_blackAt a_slips a_leftArc a_died a_arcs m_bestSum m_nearest m_nearestTown a_there a_backAt a_sorted a_parts m_seed1 m_darkNow), (cAI g a_r 311 d_r)] [] [0, 1, 2, 3, 4, 5, 6, 7, 8, 9, 10, 11, 12, 13] (m_in l g p1 0 4) dX11_apart_23 mw482 mw483 mw5 mw484 yk_yX11_in_3 rfl (Nat.le_of_ble_eq_true rfl) (Nat.le_of_ble_eq_true rfl) (Nat.le_of_ble_eq_true rfl) (Nat.le_of_ble_eq_true rfl) (Nat.le_of_ble_eq_true rfl) rfl rfl (by decide +kernel) rfl (by decide +kernel) (by decide +kernel) ?_
    rintro r_11 w ⟨iv_12, hk_13, hk_14, rfl⟩
    refine k_ws [(cAI g a_st 44 d_st), (cAI g a_from 8 d_from), (cAI g a_begin 8 d_begin), (cAI g a_motor 8 d_motor), (cAI g a_change 8 d_change), (cAI g a_startFrame 8 d_startFrame), (cAI g a_changeFrame 8 d_changeFrame), (cAI g a_lostAt 8 d_lostAt), (cAI g a_blackAt 8 d_blackAt), (cAI g a_slips 8 d_slips), (cAI g a_there 8 d_there), (cAI g a_backAt 4 d_backAt), (cO11_i1r1i10r1i2r5i2r12i3r4i2 h0 m_thrown2_1 a_tape m_taped m_size m_at m_end m_token m_whole m_nameSize m_fault m_place m_trouble2_2 a_letters m_failed m_hasHouse a_r a_fresh a_st a_undone a_kept m_undos m_images a_from a_begin a_motor a_change a_startFrame a_changeFrame a_lostAt a_blackAt a_slips a_leftArc a_died a_arcs m_bestSum m_nearest m_nearestTown a_there a_backAt a_sorted a_parts m_seed1 m_darkNow), (cAI g a_r 311 d_r)] rfl ?_
    refine k_if_eq 53 X dX11_apart_26 (by decide) (fun h_15 => ?_) (fun h_15 => ?_)
    · skip
      have iv_16 : IV r_11 0 0 := iv_meet iv_12 (iv_e h_15 (show IV 0 0 0 from (by decide))) (by decide) (by decide)
      have hc_17 := hk_14 (iv_eq iv_16 (show IV 0 0 0 from (by decide)))
      have j_18 : p1.toInt < 0 ∨ 4 < p1.toInt := hc_17
      refine k_aload_n X dX11_apart_53 1 rfl ?_
      refine k_iconst (v := 2) X dX11_apart_54 (by decide) ?_
      refine k_callVI (n := 1) (As := [.int 2]) (st := []) X [(cO11_i1r1i10r1i2r5i2r12i3r4i2 h0 m_thrown2_1 a_tape m_taped m_size m_at m_end m_token m_whole m_nameSize m_fault m_place m_trouble2_2 a_letters m_failed m_hasHouse a_r a_fresh a_st a_undone a_kept m_undos m_images a_from a_begin a_motor a_change a_startFrame a_changeFrame a_lostAt a_blackAt a_slips a_leftArc a_died a_arcs m_bestSum m_nearest m_nearestTown a_there a_backAt a_sorted a_parts m_seed1 m_darkNow)] [(cAI g a_st 44 d_st), (cAI g a_from 8 d_from), (cAI g a_begin 8 d_begin), (cAI g a_motor 8 d_motor), (cAI g a_change 8 d_change), (cAI g a_startFrame 8 d_startFrame), (cAI g a_changeFrame 8 d_changeFrame), (cAI g a_lostAt 8 d_lostAt), (cAI g a_blackAt 8 d_blackAt), (cAI g a_slips 8 d_slips), (cAI g a_there 8 d_there), (cAI g a_backAt 4 d_backAt), (cAI g a_r 311 d_r)] [12] [0, 1, 2, 3, 4, 5, 6, 7, 8, 9, 10, 11, 13] (m_no l g h0 2 m_thrown2_1 a_tape m_taped m_size m_at m_end m_token m_whole m_nameSize m_fault m_place m_trouble2_2 a_letters m_failed m_hasHouse a_r a_fresh a_st a_undone a_kept m_undos m_images a_from a_begin a_motor a_change a_startFrame a_changeFrame a_lostAt a_blackAt a_slips a_leftArc a_died a_arcs m_bestSum m_nearest m_nearestTown a_there a_backAt a_sorted a_parts m_seed1 m_darkNow) dX11_apart_55 mw485 mw486 mw487 mw5 mw488 rfl 11 rfl rfl 0 _ rfl yk_yX11_no_1 rfl (Nat.le_of_ble_eq_true rfl) (Nat.le_of_ble_eq_true rfl) (Nat.le_of_ble_eq_true rfl) (Nat.le_of_ble_eq_true rfl) (Nat.le_of_ble_eq_true rfl) rfl rfl (by decide +kernel) rfl (by decide +kernel) (by decide +kernel) ?_
      rintro r_20 w ⟨m_trouble2_19, iv_21, rfl⟩
      refine k_ws [(cAI g a_st 44 d_st), (cAI g a_from 8 d_from), (cAI g a_begin 8 d_begin), (cAI g a_motor 8 d_motor), (cAI g a_change 8 d_change), (cAI g a_startFrame 8 d_startFrame), (cAI g a_changeFrame 8 d_changeFrame), (cAI g a_lostAt 8 d_lostAt), (cAI g a_blackAt 8 d_blackAt), (cAI g a_slips 8 d_slips), (cAI g a_there 8 d_there), (cAI g a_backAt 4 d_backAt), (cAI g a_r 311 d_r), (cO11_i1r1i10r1i2r5i2r12i3r4i2 h0 m_thrown2_1 a_tape m_taped m_size m_at m_end m_token m_whole m_nameSize m_fault m_place m_trouble2_19 a_letters m_failed m_hasHouse a_r a_fresh a_st a_undone a_kept m_undos m_images a_from a_begin a_motor a_change a_startFrame a_changeFrame a_lostAt a_blackAt a_slips a_leftArc a_died a_arcs m_bestSum m_nearest m_nearestTown a_there a_backAt a_sorted a_parts m_seed1 m_darkNow)] rfl ?_
      exact k_iret X hr dX11_apart_58 (Nat.le_of_ble_eq_true rfl) (Nat.le_of_ble_eq_true rfl) [13, 12, 0, 1, 2, 3, 4, 5, 6, 7, 8, 9, 10, 11] (by decide) rfl rfl ⟨d_backAt, d_begin, d_blackAt, d_change, d_changeFrame, d_from, d_lostAt, d_motor, d_slips, d_startFrame, d_there, m_thrown2_1, m_trouble2_19, rfl⟩
    · skip
      have hc_22 := hk_13.resolve_left h_15
      have j_23 : 0 ≤ p1.toInt := hc_22.1
      have iv_24 : IV p1 0 2147483647 := iv_leR hc_22.1 (show IV 0 0 0 from (by decide)) (iv_any p1) (by decide)
      have j_25 : p1.toInt ≤ 4 := hc_22.2
      have iv_26 : IV p1 0 4 := iv_leL hc_22.2 iv_24 (show IV 4 4 4 from (by decide)) (by decide)
      have iv_27 : IV r_11 1 1 := iv_neL h_15 iv_12 (show IV 0 0 0 from (by decide)) (by decide)
      refine k_aload_n X dX11_apart_29 1 rfl ?_
      refine k_iload_n X dX11_apart_30 2 rfl ?_
      refine k_iload_n X dX11_apart_31 3 rfl ?_
      refine k_if_ne 46 X dX11_apart_32 (by decide) (fun h_28 => ?_) (fun h_28 => ?_)
      · skip
        have iv_29 : IV p1 1 4 := iv_neL h_28 iv_26 (show IV 0 0 0 from (by decide)) (by decide)
        refine k_iload_n X dX11_apart_46 3 rfl ?_
        refine k_callVI (n := 2) (As := [.int p0, .int p1]) (st := []) X [(cO11_i1r1i10r1i2r5i2r12i3r4i2 h0 m_thrown2_1 a_tape m_taped m_size m_at m_end m_token m_whole m_nameSize m_fault m_place m_trouble2_2 a_letters m_failed m_hasHouse a_r a_fresh a_st a_undone a_kept m_undos m_images a_from a_begin a_motor a_change a_startFrame a_changeFrame a_lostAt a_blackAt a_slips a_leftArc a_died a_arcs m_bestSum m_nearest m_nearestTown a_there a_backAt a_sorted a_parts m_seed1 m_darkNow), (cAI g a_r 311 d_r), (cAI g a_st 44 d_st), (cAI g a_from 8 d_from), (cAI g a_begin 8 d_begin), (cAI g a_motor 8 d_motor), (cAI g a_change 8 d_change), (cAI g a_startFrame 8 d_startFrame), (cAI g a_changeFrame 8 d_changeFrame), (cAI g a_lostAt 8 d_lostAt), (cAI g a_blackAt 8 d_blackAt), (cAI g a_slips 8 d_slips), (cAI g a_there 8 d_there), (cAI g a_backAt 4 d_backAt)] [] [12, 13, 0, 1, 2, 3, 4, 5, 6, 7, 8, 9, 10, 11] [] (m_apartOf l g h0 p0 p1 m_thrown2_1 a_tape m_taped m_size m_at m_end m_token m_whole m_nameSize m_fault m_place m_trouble2_2 a_letters m_failed m_hasHouse a_r a_fresh a_st a_undone a_kept m_undos m_images a_from a_begin a_motor a_change a_startFrame a_changeFrame a_lostAt a_blackAt a_slips a_leftArc a_died a_arcs m_bestSum m_nearest m_nearestTown a_there a_backAt a_sorted a_parts m_seed1 m_darkNow d_r d_st d_from d_begin d_motor d_change d_startFrame d_changeFrame d_lostAt d_blackAt d_slips d_there d_backAt (iv_w iv_10 (by decide) (by decide)) (iv_w iv_29 (by decide) (by decide)) hp_d_r) dX11_apart_47 mw1319 mw1320 mw1321 mw5 mw1322 rfl 11 rfl rfl 0 _ rfl yk_yX11_apartOf_2 rfl (Nat.le_of_ble_eq_true rfl) (Nat.le_of_ble_eq_true rfl) (Nat.le_of_ble_eq_true rfl) (Nat.le_of_ble_eq_true rfl) (Nat.le_of_ble_eq_true rfl) rfl rfl (by decide +kernel) rfl (by decide +kernel) (by decide +kernel) ?_
        intro r_41 w zq
        refine exL11 zq ?_
        clear zq
        intro d_backAt2_30 d_begin2_31 d_blackAt2_32 d_change2_33 d_changeFrame2_34 d_from2_35 d_lostAt2_36 d_motor2_37 d_slips2_38 d_startFrame2_39 d_there2_40 zq
        subst zq
        refine k_ws [(cO11_i1r1i10r1i2r5i2r12i3r4i2 h0 m_thrown2_1 a_tape m_taped m_size m_at m_end m_token m_whole m_nameSize m_fault m_place m_trouble2_2 a_letters m_failed m_hasHouse a_r a_fresh a_st a_undone a_kept m_undos m_images a_from a_begin a_motor a_change a_startFrame a_changeFrame a_lostAt a_blackAt a_slips a_leftArc a_died a_arcs m_bestSum m_nearest m_nearestTown a_there a_backAt a_sorted a_parts m_seed1 m_darkNow), (cAI g a_r 311 d_r), (cAI g a_st 44 d_st), (cAI g a_from 8 d_from2_35), (cAI g a_begin 8 d_begin2_31), (cAI g a_motor 8 d_motor2_37), (cAI g a_change 8 d_change2_33), (cAI g a_startFrame 8 d_startFrame2_39), (cAI g a_changeFrame 8 d_changeFrame2_34), (cAI g a_lostAt 8 d_lostAt2_36), (cAI g a_blackAt 8 d_blackAt2_32), (cAI g a_slips 8 d_slips2_38), (cAI g a_there 8 d_there2_40), (cAI g a_backAt 4 d_backAt2_30)] rfl ?_
        refine k_goto 58 X dX11_apart_50 (by decide) ?_
        exact k_iret X hr dX11_apart_58 (Nat.le_of_ble_eq_true rfl) (Nat.le_of_ble_eq_true rfl) [0, 1, 2, 3, 4, 5, 6, 7, 8, 9, 10, 11, 12, 13] (by decide) rfl rfl ⟨d_backAt2_30, d_begin2_31, d_blackAt2_32, d_change2_33, d_changeFrame2_34, d_from2_35, d_lostAt2_36, d_motor2_37, d_slips2_38, d_startFrame2_39, d_there2_40, m_thrown2_1, m_trouble2_2, rfl⟩
      · skip
        have iv_42 : IV p1 0 0 := iv_meet iv_26 (iv_e h_28 (show IV 0 0 0 from (by decide))) (by decide) (by decide)
        refine k_aload_n X dX11_apart_35 1 rfl ?_
        refine k_get (ci := 11) X inlX11 rfl 15 (by decide) dX11_apart_36 mw170 12 rfl rfl ?_
        refine k_sipush (v := 134) X dX11_apart_39 (by decide) ?_
        refine k_iald X dX11_apart_42 13 rfl (by unfold vp_in; decide) ?_
        refine k_nm (fun z_43 ez_43 => ?_)
        have i_44 : z_43.toInt = (d_r 134).toInt := by rw [ez_43]; rfl
        have iv_45 : IV z_43 0 4 := rb_134 ez_43 hp_d_r
        refine k_goto 47 X dX11_apart_43 (by decide) ?_
        refine k_callVI (n := 2) (As := [.int p0, .int z_43]) (st := []) X [(cO11_i1r1i10r1i2r5i2r12i3r4i2 h0 m_thrown2_1 a_tape m_taped m_size m_at m_end m_token m_whole m_nameSize m_fault m_place m_trouble2_2 a_letters m_failed m_hasHouse a_r a_fresh a_st a_undone a_kept m_undos m_images a_from a_begin a_motor a_change a_startFrame a_changeFrame a_lostAt a_blackAt a_slips a_leftArc a_died a_arcs m_bestSum m_nearest m_nearestTown a_there a_backAt a_sorted a_parts m_seed1 m_darkNow), (cAI g a_r 311 d_r), (cAI g a_st 44 d_st), (cAI g a_from 8 d_from), (cAI g a_begin 8 d_begin), (cAI g a_motor 8 d_motor), (cAI g a_change 8 d_change), (cAI g a_startFrame 8 d_startFrame), (cAI g a_changeFrame 8 d_changeFrame), (cAI g a_lostAt 8 d_lostAt), (cAI g a_blackAt 8 d_blackAt), (cAI g a_slips 8 d_slips), (cAI g a_there 8 d_there), (cAI g a_backAt 4 d_backAt)] [] [12, 13, 0, 1, 2, 3, 4, 5, 6, 7, 8, 9, 10, 11] [] (m_apartOf l g h0 p0 z_43 m_thrown2_1 a_tape m_taped m_size m_at m_end m_token m_whole m_nameSize m_fault m_place m_trouble2_2 a_letters m_failed m_hasHouse a_r a_fresh a_st a_undone a_kept m_undos m_images a_from a_begin a_motor a_change a_startFrame a_changeFrame a_lostAt a_blackAt a_slips a_leftArc a_died a_arcs m_bestSum m_nearest m_nearestTown a_there a_backAt a_sorted a_parts m_seed1 m_darkNow d_r d_st d_from d_begin d_motor d_change d_startFrame d_changeFrame d_lostAt d_blackAt d_slips d_there d_backAt (iv_w iv_10 (by decide) (by decide)) (iv_w iv_45 (by decide) (by decide)) hp_d_r) dX11_apart_47 mw1319 mw1320 mw1321 mw5 mw1322 rfl 11 rfl rfl 0 _ rfl yk_yX11_apartOf_2 rfl (Nat.le_of_ble_eq_true rfl) (Nat.le_of_ble_eq_true rfl) (Nat.le_of_ble_eq_true rfl) (Nat.le_of_ble_eq_true rfl) (Nat.le_of_ble_eq_true rfl) rfl rfl (by decide +kernel) rfl (by decide +kernel) (by decide +kernel) ?_
        intro r_57 w zq
        refine exL11 zq ?_
        clear zq
        intro d_backAt2_46 d_begin2_47 d_blackAt2_48 d_change2_49 d_changeFrame2_50 d_from2_51 d_lostAt2_52 d_motor2_53 d_slips2_54 d_startFrame2_55 d_there2_56 zq
        subst zq
        refine k_ws [(cO11_i1r1i10r1i2r5i2r12i3r4i2 h0 m_thrown2_1 a_tape m_taped m_size m_at m_end m_token m_whole m_nameSize m_fault m_place m_trouble2_2 a_letters m_failed m_hasHouse a_r a_fresh a_st a_undone a_kept m_undos m_images a_from a_begin a_motor a_change a_startFrame a_changeFrame a_lostAt a_blackAt a_slips a_leftArc a_died a_arcs m_bestSum m_nearest m_nearestTown a_there a_backAt a_sorted a_parts m_seed1 m_darkNow), (cAI g a_r 311 d_r), (cAI g a_st 44 d_st), (cAI g a_from 8 d_from2_51), (cAI g a_begin 8 d_begin2_47), (cAI g a_motor 8 d_motor2_53), (cAI g a_change 8 d_change2_49), (cAI g a_startFrame 8 d_startFrame2_55), (cAI g a_changeFrame 8 d_changeFrame2_50), (cAI g a_lostAt 8 d_lostAt2_52), (cAI g a_blackAt 8 d_blackAt2_48), (cAI g a_slips 8 d_slips2_54), (cAI g a_there 8 d_there2_56), (cAI g a_backAt 4 d_backAt2_46)] rfl ?_
        refine k_goto 58 X dX11_apart_50 (by decide) ?_
        exact k_iret X hr dX11_apart_58 (Nat.le_of_ble_eq_true rfl) (Nat.le_of_ble_eq_true rfl) [0, 1, 2, 3, 4, 5, 6, 7, 8, 9, 10, 11, 12, 13] (by decide) rfl rfl ⟨d_backAt2_46, d_begin2_47, d_blackAt2_48, d_change2_49, d_changeFrame2_50, d_from2_51, d_lostAt2_52, d_motor2_53, d_slips2_54, d_startFrame2_55, d_there2_56, m_thrown2_1, m_trouble2_2, rfl⟩
  · skip
    have iv_58 : IV r_4 1 6 := iv_neL h_7 iv_5 (show IV 0 0 0 from (by decide)) (by decide)
    refine k_aload_n X dX11_apart_14 1 rfl ?_
    refine k_iload_n X dX11_apart_15 0 rfl ?_
    refine k_callVI (n := 1) (As := [.int r_4]) (st := []) X [(cO11_i1r1i10r1i2r5i2r12i3r4i2 h0 m_thrown2_1 a_tape m_taped m_size m_at m_end m_token m_whole m_nameSize m_fault m_place m_trouble2_2 a_letters m_failed m_hasHouse a_r a_fresh a_st a_undone a_kept m_undos m_images a_from a_begin a_motor a_change a_startFrame a_changeFrame a_lostAt a_blackAt a_slips a_leftArc a_died a_arcs m_bestSum m_nearest m_nearestTown a_there a_backAt a_sorted a_parts m_seed1 m_darkNow)] [(cAI g a_st 44 d_st), (cAI g a_from 8 d_from), (cAI g a_begin 8 d_begin), (cAI g a_motor 8 d_motor), (cAI g a_change 8 d_change), (cAI g a_startFrame 8 d_startFrame), (cAI g a_changeFrame 8 d_changeFrame), (cAI g a_lostAt 8 d_lostAt), (cAI g a_blackAt 8 d_blackAt), (cAI g a_slips 8 d_slips), (cAI g a_there 8 d_there), (cAI g a_backAt 4 d_backAt), (cAI g a_r 311 d_r)] [12] [0, 1, 2, 3, 4, 5, 6, 7, 8, 9, 10, 11, 13] (m_no l g h0 r_4 m_thrown2_1 a_tape m_taped m_size m_at m_end m_token m_whole m_nameSize m_fault m_place m_trouble2_2 a_letters m_failed m_hasHouse a_r a_fresh a_st a_undone a_kept m_undos m_images a_from a_begin a_motor a_change a_startFrame a_changeFrame a_lostAt a_blackAt a_slips a_leftArc a_died a_arcs m_bestSum m_nearest m_nearestTown a_there a_backAt a_sorted a_parts m_seed1 m_darkNow) dX11_apart_16 mw485 mw486 mw487 mw5 mw488 rfl 11 rfl rfl 0 _ rfl yk_yX11_no_1 rfl (Nat.le_of_ble_eq_true rfl) (Nat.le_of_ble_eq_true rfl) (Nat.le_of_ble_eq_true rfl) (Nat.le_of_ble_eq_true rfl) (Nat.le_of_ble_eq_true rfl) rfl rfl (by decide +kernel) rfl (by decide +kernel) (by decide +kernel) ?_
    rintro r_60 w ⟨m_trouble2_59, iv_61, rfl⟩
    refine k_ws [(cAI g a_st 44 d_st), (cAI g a_from 8 d_from), (cAI g a_begin 8 d_begin), (cAI g a_motor 8 d_motor), (cAI g a_change 8 d_change), (cAI g a_startFrame 8 d_startFrame), (cAI g a_changeFrame 8 d_changeFrame), (cAI g a_lostAt 8 d_lostAt), (cAI g a_blackAt 8 d_blackAt), (cAI g a_slips 8 d_slips), (cAI g a_there 8 d_there), (cAI g a_backAt 4 d_backAt), (cAI g a_r 311 d_r), (cO11_i1r1i10r1i2r5i2r12i3r4i2 h0 m_thrown2_1 a_tape m_taped m_size m_at m_end m_token m_whole m_nameSize m_fault m_place m_trouble2_59 a_letters m_failed m_hasHouse a_r a_fresh a_st a_undone a_kept m_undos m_images a_from a_begin a_motor a_change a_startFrame a_changeFrame a_lostAt a_blackAt a_slips a_leftArc a_died a_arcs m_bestSum m_nearest m_nearestTown a_there a_backAt a_sorted a_parts m_seed1 m_darkNow)] rfl ?_
    exact k_iret X hr dX11_apart_19 (Nat.le_of_ble_eq_true rfl) (Nat.le_of_ble_eq_true rfl) [13, 12, 0, 1, 2, 3, 4, 5, 6, 7, 8, 9, 10, 11] (by decide) rfl rfl ⟨d_backAt, d_begin, d_blackAt, d_change, d_changeFrame, d_from, d_lostAt, d_motor, d_slips, d_startFrame, d_there, m_thrown2_1, m_trouble2_59, rfl⟩

theorem dX11_waits_0 : decode cX11_waits 0 = .ok (.aload_n 0, 1) := dk_42 rfl
theorem dX11_waits_1 : decode cX11_waits 1 = .ok (.invokevirtual 200, 3) := dk_182 rfl rfl rfl rfl
theorem dX11_waits_4 : decode cX11_waits 4 = .ok (.aload_n 0, 1) := dk_42 rfl
theorem dX11_waits_5 : decode cX11_waits 5 = .ok (.iload_n 1, 1) := dk_27 rfl
theorem dX11_waits_6 : decode cX11_waits 6 = .ok (.invokevirtual 446, 3) := dk_182 rfl rfl rfl rfl
theorem dX11_waits_9 : decode cX11_waits 9 = .ok (.istore 4, 2) := dk_54 rfl rfl rfl
theorem dX11_waits_11 : decode cX11_waits 11 = .ok (.iload 4, 2) := dk_21 rfl rfl rfl
theorem dX11_waits_13 : decode cX11_waits 13 = .ok (.ifCond .eq 10, 3) := dk_153 rfl rfl rfl (by decide)
theorem dX11_waits_16 : decode cX11_waits 16 = .ok (.aload_n 0, 1) := dk_42 rfl
theorem dX11_waits_17 : decode cX11_waits 17 = .ok (.iload 4, 2) := dk_21 rfl rfl rfl
theorem dX11_waits_19 : decode cX11_waits 19 = .ok (.invokevirtual 203, 3) := dk_182 rfl rfl rfl rfl
theorem dX11_waits_22 : decode cX11_waits 22 = .ok (.ireturn, 1) := dk_172 rfl
theorem dX11_waits_23 : decode cX11_waits 23 = .ok (.iload_n 2, 1) := dk_28 rfl
theorem dX11_waits_24 : decode cX11_waits 24 = .ok (.iconst 0, 1) := dk_3 rfl
theorem dX11_waits_25 : decode cX11_waits 25 = .ok (.iconst 4, 1) := dk_7 rfl
theorem dX11_waits_26 : decode cX11_waits 26 = .ok (.invokestatic 182, 3) := dk_184 rfl rfl rfl rfl
theorem dX11_waits_29 : decode cX11_waits 29 = .ok (.ifCond .eq 14, 3) := dk_153 rfl rfl rfl (by decide)
theorem dX11_waits_32 : decode cX11_waits 32 = .ok (.iload_n 3, 1) := dk_29 rfl
theorem dX11_waits_33 : decode cX11_waits 33 = .ok (.iconst 0, 1) := dk_3 rfl
theorem dX11_waits_34 : decode cX11_waits 34 = .ok (.sipush 9999, 3) := dk_17 rfl rfl rfl (by decide)
theorem dX11_waits_37 : decode cX11_waits 37 = .ok (.invokestatic 182, 3) := dk_184 rfl rfl rfl rfl
theorem dX11_waits_40 : decode cX11_waits 40 = .ok (.ifCond .ne 9, 3) := dk_154 rfl rfl rfl (by decide)
theorem dX11_waits_43 : decode cX11_waits 43 = .ok (.aload_n 0, 1) := dk_42 rfl
theorem dX11_waits_44 : decode cX11_waits 44 = .ok (.iconst 2, 1) := dk_5 rfl
theorem dX11_waits_45 : decode cX11_waits 45 = .ok (.invokevirtual 203, 3) := dk_182 rfl rfl rfl rfl
theorem dX11_waits_48 : decode cX11_waits 48 = .ok (.ireturn, 1) := dk_172 rfl
theorem dX11_waits_49 : decode cX11_waits 49 = .ok (.aload_n 0, 1) := dk_42 rfl
theorem dX11_waits_50 : decode cX11_waits 50 = .ok (.iload_n 1, 1) := dk_27 rfl
theorem dX11_waits_51 : decode cX11_waits 51 = .ok (.iload_n 2, 1) := dk_28 rfl
theorem dX11_waits_52 : decode cX11_waits 52 = .ok (.ifCond .ne 14, 3) := dk_154 rfl rfl rfl (by decide)
theorem dX11_waits_55 : decode cX11_waits 55 = .ok (.aload_n 0, 1) := dk_42 rfl
theorem dX11_waits_56 : decode cX11_waits 56 = .ok (.getfield 20, 3) := dk_180 rfl rfl rfl rfl
theorem dX11_waits_59 : decode cX11_waits 59 = .ok (.sipush 134, 3) := dk_17 rfl rfl rfl (by decide)
theorem dX11_waits_62 : decode cX11_waits 62 = .ok (.iaload, 1) := dk_46 rfl
theorem dX11_waits_63 : decode cX11_waits 63 = .ok (.goto 4, 3) := dk_167 rfl rfl rfl (by decide)
theorem dX11_waits_66 : decode cX11_waits 66 = .ok (.iload_n 2, 1) := dk_28 rfl
theorem dX11_waits_67 : decode cX11_waits 67 = .ok (.invokevirtual 443, 3) := dk_182 rfl rfl rfl rfl
theorem dX11_waits_70 : decode cX11_waits 70 = .ok (.iconst 0, 1) := dk_3 rfl
theorem dX11_waits_71 : decode cX11_waits 71 = .ok (.istore 5, 2) := dk_54 rfl rfl rfl
theorem dX11_waits_73 : decode cX11_waits 73 = .ok (.iload_n 3, 1) := dk_29 rfl
theorem dX11_waits_74 : decode cX11_waits 74 = .ok (.istore 6, 2) := dk_54 rfl rfl rfl
theorem dX11_waits_76 : decode cX11_waits 76 = .ok (.iconst 0, 1) := dk_3 rfl
theorem dX11_waits_77 : decode cX11_waits 77 = .ok (.istore 7, 2) := dk_54 rfl rfl rfl
theorem dX11_waits_79 : decode cX11_waits 79 = .ok (.iload 7, 2) := dk_21 rfl rfl rfl
theorem dX11_waits_81 : decode cX11_waits 81 = .ok (.aload_n 0, 1) := dk_42 rfl
theorem dX11_waits_82 : decode cX11_waits 82 = .ok (.getfield 20, 3) := dk_180 rfl rfl rfl rfl
theorem dX11_waits_85 : decode cX11_waits 85 = .ok (.bipush 12, 2) := dk_16 rfl rfl (by decide)
theorem dX11_waits_87 : decode cX11_waits 87 = .ok (.iaload, 1) := dk_46 rfl
theorem dX11_waits_88 : decode cX11_waits 88 = .ok (.if_icmp .ge 47, 3) := dk_162 rfl rfl rfl (by decide)
theorem dX11_waits_91 : decode cX11_waits 91 = .ok (.iconst 0, 1) := dk_3 rfl
theorem dX11_waits_92 : decode cX11_waits 92 = .ok (.aload_n 0, 1) := dk_42 rfl
theorem dX11_waits_93 : decode cX11_waits 93 = .ok (.getfield 71, 3) := dk_180 rfl rfl rfl rfl
theorem dX11_waits_96 : decode cX11_waits 96 = .ok (.iload 7, 2) := dk_21 rfl rfl rfl
theorem dX11_waits_98 : decode cX11_waits 98 = .ok (.iaload, 1) := by decide +kernel
theorem dX11_waits_99 : decode cX11_waits 99 = .ok (.aload_n 0, 1) := by decide +kernel
theorem dX11_waits_100 : decode cX11_waits 100 = .ok (.getfield 38, 3) := by decide +kernel
theorem dX11_waits_103 : decode cX11_waits 103 = .ok (.iload 7, 2) := by decide +kernel
theorem dX11_waits_105 : decode cX11_waits 105 = .ok (.iaload, 1) := by decide +kernel
theorem dX11_waits_106 : decode cX11_waits 106 = .ok (.isub, 1) := by decide +kernel
theorem dX11_waits_107 : decode cX11_waits 107 = .ok (.iload 6, 2) := by decide +kernel
theorem dX11_waits_109 : decode cX11_waits 109 = .ok (.isub, 1) := by decide +kernel
theorem dX11_waits_110 : decode cX11_waits 110 = .ok (.invokestatic 351, 3) := by decide +kernel
theorem dX11_waits_113 : decode cX11_waits 113 = .ok (.istore 8, 2) := by decide +kernel
theorem dX11_waits_115 : decode cX11_waits 115 = .ok (.iload 5, 2) := by decide +kernel
theorem dX11_waits_117 : decode cX11_waits 117 = .ok (.iload 8, 2) := by decide +kernel
theorem dX11_waits_119 : decode cX11_waits 119 = .ok (.iadd, 1) := by decide +kernel
theorem dX11_waits_120 : decode cX11_waits 120 = .ok (.istore 5, 2) := by decide +kernel
theorem dX11_waits_122 : decode cX11_waits 122 = .ok (.iload 6, 2) := by decide +kernel
theorem dX11_waits_124 : decode cX11_waits 124 = .ok (.iload 8, 2) := by decide +kernel
theorem dX11_waits_126 : decode cX11_waits 126 = .ok (.iadd, 1) := by decide +kernel
theorem dX11_waits_127 : decode cX11_waits 127 = .ok (.istore 6, 2) := by decide +kernel
theorem dX11_waits_129 : decode cX11_waits 129 = .ok (.iinc 7 1, 3) := by decide +kernel
theorem dX11_waits_132 : decode cX11_waits 132 = .ok (.goto (-53), 3) := by decide +kernel
theorem dX11_waits_135 : decode cX11_waits 135 = .ok (.iload 5, 2) := by decide +kernel
theorem dX11_waits_137 : decode cX11_waits 137 = .ok (.ireturn, 1) := by decide +kernel
set_option maxHeartbeats 4000000 in
set_option maxRecDepth 100000 in
theorem m_waits (l : Launch) (g : Gx) (h0 : Nat) (p0 : Int32) (p1 : Int32) (p2 : Int32) (m_thrown : Int32) (a_tape : Nat) (m_taped : Int32) (m_size : Int32) (m_at : Int32) (m_end : Int32) (m_token : Int32) (m_whole : Int32) (m_nameSize : Int32) (m_fault : Int32) (m_place : Int32) (m_trouble : Int32) (a_letters : Nat) (m_failed : Int32) (m_hasHouse : Int32) (a_r : Nat) (a_fresh : Nat) (a_st : Nat) (a_undone : Nat) (a_kept : Nat) (m_undos : Int32) (m_images : Int32) (a_from : Nat) (a_begin : Nat) (a_motor : Nat) (a_change : Nat) (a_startFrame : Nat) (a_changeFrame : Nat) (a_lostAt : Nat) (a_blackAt : Nat) (a_slips : Nat) (a_leftArc : Nat) (a_died : Nat) (a_arcs : Nat) (m_bestSum : Int32) (m_nearest : Int32) (m_nearestTown : Int32) (a_there : Nat) (a_backAt : Nat) (a_sorted : Nat) (a_parts : Nat) (m_seed1 : Int32) (m_darkNow : Int32) (d_r : Nat → Int32) (d_st : Nat → Int32) (d_from : Nat → Int32) (d_begin : Nat → Int32) (d_motor : Nat → Int32) (d_change : Nat → Int32) (d_startFrame : Nat → Int32) (d_changeFrame : Nat → Int32) (d_lostAt : Nat → Int32) (d_blackAt : Nat → Int32) (d_slips : Nat → Int32) (d_there : Nat → Int32) (d_backAt : Nat → Int32) (hv_m_hasHouse : IV m_hasHouse 0 1) (hp_d_r : RInv d_r) : cI l g yX11_waits cX11_waits 9 (some .int) 6 135 0 0 [.ref h0, .int p0, .int p1, .int p2] [(cO11_i1r1i10r1i2r5i2r12i3r4i2 h0 m_thrown a_tape m_taped m_size m_at m_end m_token m_whole m_nameSize m_fault m_place m_trouble a_letters m_failed m_hasHouse a_r a_fresh a_st a_undone a_kept m_undos m_images a_from a_begin a_motor a_change a_startFrame a_changeFrame a_lostAt a_blackAt a_slips a_leftArc a_died a_arcs m_bestSum m_nearest m_nearestTown a_there a_backAt a_sorted a_parts m_seed1 m_darkNow), (cAI g a_r 311 d_r), (cAI g a_st 44 d_st), (cAI g a_from 8 d_from), (cAI g a_begin 8 d_begin), (cAI g a_motor 8 d_motor), (cAI g a_change 8 d_change), (cAI g a_startFrame 8 d_startFrame), (cAI g a_changeFrame 8 d_changeFrame), (cAI g a_lostAt 8 d_lostAt), (cAI g a_blackAt 8 d_blackAt), (cAI g a_slips 8 d_slips), (cAI g a_there 8 d_there), (cAI g a_backAt 4 d_backAt)] (fun r w => ∃ (d_backAt2 : Nat → Int32) (d_begin2 : Nat → Int32) (d_blackAt2 : Nat → Int32) (d_change2 : Nat → Int32) (d_changeFrame2 : Nat → Int32) (d_from2 : Nat → Int32) (d_lostAt2 : Nat → Int32) (d_motor2 : Nat → Int32) (d_slips2 : Nat → Int32) (d_startFrame2 : Nat → Int32) (d_there2 : Nat → Int32) (m_thrown2 : Int32) (m_trouble2 : Int32), w = [(cO11_i1r1i10r1i2r5i2r12i3r4i2 h0 m_thrown2 a_tape m_taped m_size m_at m_end m_token m_whole m_nameSize m_fault m_place m_trouble2 a_letters m_failed m_hasHouse a_r a_fresh a_st a_undone a_kept m_undos m_images a_from a_begin a_motor a_change a_startFrame a_changeFrame a_lostAt a_blackAt a_slips a_leftArc a_died a_arcs m_bestSum m_nearest m_nearestTown a_there a_backAt a_sorted a_parts m_seed1 m_darkNow), (cAI g a_r 311 d_r), (cAI g a_st 44 d_st), (cAI g a_from 8 d_from2), (cAI g a_begin 8 d_begin2), (cAI g a_motor 8 d_motor2), (cAI g a_change 8 d_change2), (cAI g a_startFrame 8 d_startFrame2), (cAI g a_changeFrame 8 d_changeFrame2), (cAI g a_lostAt 8 d_lostAt2), (cAI g a_blackAt 8 d_blackAt2), (cAI g a_slips 8 d_slips2), (cAI g a_there 8 d_there2), (cAI g a_backAt 4 d_backAt2)]) := by
  refine cI.of (by decide) (Nat.le_of_ble_eq_true rfl) ?_
  intro p e s m args below meth c A X hr hi
  refine k_lveq [(0, .ref h0), (1, .int p0), (2, .int p1), (3, .int p2)] rfl ?_
  refine k_aload_n X dX11_waits_0 0 rfl ?_
  refine k_callVV (n := 0) (As := []) (st := []) X [(cO11_i1r1i10r1i2r5i2r12i3r4i2 h0 m_thrown a_tape m_taped m_size m_at m_end m_token m_whole m_nameSize m_fault m_place m_trouble a_letters m_failed m_hasHouse a_r a_fresh a_st a_undone a_kept m_undos m_images a_from a_begin a_motor a_change a_startFrame a_changeFrame a_lostAt a_blackAt a_slips a_leftArc a_died a_arcs m_bestSum m_nearest m_nearestTown a_there a_backAt a_sorted a_parts m_seed1 m_darkNow)] [(cAI g a_r 311 d_r), (cAI g a_st 44 d_st), (cAI g a_from 8 d_from), (cAI g a_begin 8 d_begin), (cAI g a_motor 8 d_motor), (cAI g a_change 8 d_change), (cAI g a_startFrame 8 d_startFrame), (cAI g a_changeFrame 8 d_changeFrame), (cAI g a_lostAt 8 d_lostAt), (cAI g a_blackAt 8 d_blackAt), (cAI g a_slips 8 d_slips), (cAI g a_there 8 d_there), (cAI g a_backAt 4 d_backAt)] [0] [1, 2, 3, 4, 5, 6, 7, 8, 9, 10, 11, 12, 13] (m_good l g h0 m_thrown a_tape m_taped m_size m_at m_end m_token m_whole m_nameSize m_fault m_place m_trouble a_letters m_failed m_hasHouse a_r a_fresh a_st a_undone a_kept m_undos m_images a_from a_begin a_motor a_change a_startFrame a_changeFrame a_lostAt a_blackAt a_slips a_leftArc a_died a_arcs m_bestSum m_nearest m_nearestTown a_there a_backAt a_sorted a_parts m_seed1 m_darkNow) dX11_waits_1 mw477 mw478 mw479 mw5 mw480 rfl 11 rfl rfl 0 _ rfl yk_yX11_good_0 rfl (Nat.le_of_ble_eq_true rfl) (Nat.le_of_ble_eq_true rfl) (Nat.le_of_ble_eq_true rfl) (Nat.le_of_ble_eq_true rfl) (Nat.le_of_ble_eq_true rfl) rfl rfl (by decide +kernel) rfl (by decide +kernel) (by decide +kernel) ?_
  rintro w ⟨m_thrown2_1, m_trouble2_2, rfl⟩
  refine k_ws [(cAI g a_r 311 d_r), (cAI g a_st 44 d_st), (cAI g a_from 8 d_from), (cAI g a_begin 8 d_begin), (cAI g a_motor 8 d_motor), (cAI g a_change 8 d_change), (cAI g a_startFrame 8 d_startFrame), (cAI g a_changeFrame 8 d_changeFrame), (cAI g a_lostAt 8 d_lostAt), (cAI g a_blackAt 8 d_blackAt), (cAI g a_slips 8 d_slips), (cAI g a_there 8 d_there), (cAI g a_backAt 4 d_backAt), (cO11_i1r1i10r1i2r5i2r12i3r4i2 h0 m_thrown2_1 a_tape m_taped m_size m_at m_end m_token m_whole m_nameSize m_fault m_place m_trouble2_2 a_letters m_failed m_hasHouse a_r a_fresh a_st a_undone a_kept m_undos m_images a_from a_begin a_motor a_change a_startFrame a_changeFrame a_lostAt a_blackAt a_slips a_leftArc a_died a_arcs m_bestSum m_nearest m_nearestTown a_there a_backAt a_sorted a_parts m_seed1 m_darkNow)] rfl ?_
  refine k_aload_n X dX11_waits_4 0 rfl ?_
  refine k_iload_n X dX11_waits_5 1 rfl ?_
  refine k_callVI (n := 1) (As := [.int p0]) (st := []) X [(cO11_i1r1i10r1i2r5i2r12i3r4i2 h0 m_thrown2_1 a_tape m_taped m_size m_at m_end m_token m_whole m_nameSize m_fault m_place m_trouble2_2 a_letters m_failed m_hasHouse a_r a_fresh a_st a_undone a_kept m_undos m_images a_from a_begin a_motor a_change a_startFrame a_changeFrame a_lostAt a_blackAt a_slips a_leftArc a_died a_arcs m_bestSum m_nearest m_nearestTown a_there a_backAt a_sorted a_parts m_seed1 m_darkNow), (cAI g a_r 311 d_r)] [(cAI g a_st 44 d_st), (cAI g a_from 8 d_from), (cAI g a_begin 8 d_begin), (cAI g a_motor 8 d_motor), (cAI g a_change 8 d_change), (cAI g a_startFrame 8 d_startFrame), (cAI g a_changeFrame 8 d_changeFrame), (cAI g a_lostAt 8 d_lostAt), (cAI g a_blackAt 8 d_blackAt), (cAI g a_slips 8 d_slips), (cAI g a_there 8 d_there), (cAI g a_backAt 4 d_backAt)] [13, 0] [1, 2, 3, 4, 5, 6, 7, 8, 9, 10, 11, 12] (m_boyWhy l g h0 p0 m_thrown2_1 a_tape m_taped m_size m_at m_end m_token m_whole m_nameSize m_fault m_place m_trouble2_2 a_letters m_failed m_hasHouse a_r a_fresh a_st a_undone a_kept m_undos m_images a_from a_begin a_motor a_change a_startFrame a_changeFrame a_lostAt a_blackAt a_slips a_leftArc a_died a_arcs m_bestSum m_nearest m_nearestTown a_there a_backAt a_sorted a_parts m_seed1 m_darkNow d_r (iv_w hv_m_hasHouse (by decide) (by decide)) hp_d_r) dX11_waits_6 mw1315 mw1316 mw1317 mw5 mw1318 rfl 11 rfl rfl 0 _ rfl yk_yX11_boyWhy_1 rfl (Nat.le_of_ble_eq_true rfl) (Nat.le_of_ble_eq_true rfl) (Nat.le_of_ble_eq_true rfl) (Nat.le_of_ble_eq_true rfl) (Nat.le_of_ble_eq_true rfl) rfl rfl (by decide +kernel) rfl (by decide +kernel) (by decide +kernel) ?_
  rintro r_4 w ⟨iv_5, hk_6, rfl⟩
  refine k_ws [(cAI g a_st 44 d_st), (cAI g a_from 8 d_from), (cAI g a_begin 8 d_begin), (cAI g a_motor 8 d_motor), (cAI g a_change 8 d_change), (cAI g a_startFrame 8 d_startFrame), (cAI g a_changeFrame 8 d_changeFrame), (cAI g a_lostAt 8 d_lostAt), (cAI g a_blackAt 8 d_blackAt), (cAI g a_slips 8 d_slips), (cAI g a_there 8 d_there), (cAI g a_backAt 4 d_backAt), (cO11_i1r1i10r1i2r5i2r12i3r4i2 h0 m_thrown2_1 a_tape m_taped m_size m_at m_end m_token m_whole m_nameSize m_fault m_place m_trouble2_2 a_letters m_failed m_hasHouse a_r a_fresh a_st a_undone a_kept m_undos m_images a_from a_begin a_motor a_change a_startFrame a_changeFrame a_lostAt a_blackAt a_slips a_leftArc a_died a_arcs m_bestSum m_nearest m_nearestTown a_there a_backAt a_sorted a_parts m_seed1 m_darkNow), (cAI g a_r 311 d_r)] rfl ?_
  refine k_istore [(4, .int r_4), (0, .ref h0), (1, .int p0), (2, .int p1), (3, .int p2)] X dX11_waits_9 (by decide) rfl ?_
  refine k_iload X dX11_waits_11 0 rfl ?_
  refine k_if_eq 23 X dX11_waits_13 (by decide) (fun h_7 => ?_) (fun h_7 => ?_)
  · skip
    have iv_8 : IV r_4 0 0 := iv_meet iv_5 (iv_e h_7 (show IV 0 0 0 from (by decide))) (by decide) (by decide)
    have hc_9 := hk_6.resolve_left (fun q => iv_eqN q iv_8 (show IV 1 1 1 from (by decide)) (by decide))
    have iv_10 : IV p0 0 3 := iv_meet (iv_any p0) hc_9 (by decide) (by decide)
    refine k_iload_n X dX11_waits_23 3 rfl ?_
    refine k_iconst (v := 0) X dX11_waits_24 (by decide) ?_
    refine k_iconst (v := 4) X dX11_waits_25 (by decide) ?_
    refine k_callSI (n := 3) (As := [.int p1, .int 0, .int 4]) (st := []) X [] [(cAI g a_st 44 d_st), (cAI g a_from 8 d_from), (cAI g a_begin 8 d_begin), (cAI g a_motor 8 d_motor), (cAI g a_change 8 d_change), (cAI g a_startFrame 8 d_startFrame), (cAI g a_changeFrame 8 d_changeFrame), (cAI g a_lostAt 8 d_lostAt), (cAI g a_blackAt 8 d_blackAt), (cAI g a_slips 8 d_slips), (cAI g a_there 8 d_there), (cAI g a_backAt 4 d_backAt), (cO11_i1r1i10r1i2r5i2r12i3r4i2 h0 m_thrown2_1 a_tape m_taped m_size m_at m_end m_token m_whole m_nameSize m_fault m_place m_trouble2_2 a_letters m_failed m_hasHouse a_r a_fresh a_st a_undone a_kept m_undos m_images a_from a_begin a_motor a_change a_startFrame a_changeFrame a_lostAt a_blackAt a_slips a_leftArc a_died a_arcs m_bestSum m_nearest m_nearestTown a_there a_backAt a_sorted a_parts m_seed1 m_darkNow), (cAI g a_r 311 d_r)] [] [0, 1, 2, 3, 4, 5, 6, 7, 8, 9, 10, 11, 12, 13] (m_in l g p1 0 4) dX11_waits_26 mw482 mw483 mw5 mw484 yk_yX11_in_3 rfl (Nat.le_of_ble_eq_true rfl) (Nat.le_of_ble_eq_true rfl) (Nat.le_of_ble_eq_true rfl) (Nat.le_of_ble_eq_true rfl) (Nat.le_of_ble_eq_true rfl) rfl rfl (by decide +kernel) rfl (by decide +kernel) (by decide +kernel) ?_
    rintro r_11 w ⟨iv_12, hk_13, hk_14, rfl⟩
    refine k_ws [(cAI g a_st 44 d_st), (cAI g a_from 8 d_from), (cAI g a_begin 8 d_begin), (cAI g a_motor 8 d_motor), (cAI g a_change 8 d_change), (cAI g a_startFrame 8 d_startFrame), (cAI g a_changeFrame 8 d_changeFrame), (cAI g a_lostAt 8 d_lostAt), (cAI g a_blackAt 8 d_blackAt), (cAI g a_slips 8 d_slips), (cAI g a_there 8 d_there), (cAI g a_backAt 4 d_backAt), (cO11_i1r1i10r1i2r5i2r12i3r4i2 h0 m_thrown2_1 a_tape m_taped m_size m_at m_end m_token m_whole m_nameSize m_fault m_place m_trouble2_2 a_letters m_failed m_hasHouse a_r a_fresh a_st a_undone a_kept m_undos m_images a_from a_begin a_motor a_change a_startFrame a_changeFrame a_lostAt a_blackAt a_slips a_leftArc a_died a_arcs m_bestSum m_nearest m_nearestTown a_there a_backAt a_sorted a_parts m_seed1 m_darkNow), (cAI g a_r 311 d_r)] rfl ?_
    refine k_if_eq 43 X dX11_waits_29 (by decide) (fun h_15 => ?_) (fun h_15 => ?_)
    · skip
      have iv_16 : IV r_11 0 0 := iv_meet iv_12 (iv_e h_15 (show IV 0 0 0 from (by decide))) (by decide) (by decide)
      have hc_17 := hk_14 (iv_eq iv_16 (show IV 0 0 0 from (by decide)))
      have j_18 : p1.toInt < 0 ∨ 4 < p1.toInt := hc_17
      refine k_aload_n X dX11_waits_43 1 rfl ?_
      refine k_iconst (v := 2) X dX11_waits_44 (by decide) ?_
      refine k_callVI (n := 1) (As := [.int 2]) (st := []) X [(cO11_i1r1i10r1i2r5i2r12i3r4i2 h0 m_thrown2_1 a_tape m_taped m_size m_at m_end m_token m_whole m_nameSize m_fault m_place m_trouble2_2 a_letters m_failed m_hasHouse a_r a_fresh a_st a_undone a_kept m_undos m_images a_from a_begin a_motor a_change a_startFrame a_changeFrame a_lostAt a_blackAt a_slips a_leftArc a_died a_arcs m_bestSum m_nearest m_nearestTown a_there a_backAt a_sorted a_parts m_seed1 m_darkNow)] [(cAI g a_st 44 d_st), (cAI g a_from 8 d_from), (cAI g a_begin 8 d_begin), (cAI g a_motor 8 d_motor), (cAI g a_change 8 d_change), (cAI g a_startFrame 8 d_startFrame), (cAI g a_changeFrame 8 d_changeFrame), (cAI g a_lostAt 8 d_lostAt), (cAI g a_blackAt 8 d_blackAt), (cAI g a_slips 8 d_slips), (cAI g a_there 8 d_there), (cAI g a_backAt 4 d_backAt), (cAI g a_r 311 d_r)] [12] [0, 1, 2, 3, 4, 5, 6, 7, 8, 9, 10, 11, 13] (m_no l g h0 2 m_thrown2_1 a_tape m_taped m_size m_at m_end m_token m_whole m_nameSize m_fault m_place m_trouble2_2 a_letters m_failed m_hasHouse a_r a_fresh a_st a_undone a_kept m_undos m_images a_from a_begin a_motor a_change a_startFrame a_changeFrame a_lostAt a_blackAt a_slips a_leftArc a_died a_arcs m_bestSum m_nearest m_nearestTown a_there a_backAt a_sorted a_parts m_seed1 m_darkNow) dX11_waits_45 mw485 mw486 mw487 mw5 mw488 rfl 11 rfl rfl 0 _ rfl yk_yX11_no_1 rfl (Nat.le_of_ble_eq_true rfl) (Nat.le_of_ble_eq_true rfl) (Nat.le_of_ble_eq_true rfl) (Nat.le_of_ble_eq_true rfl) (Nat.le_of_ble_eq_true rfl) rfl rfl (by decide +kernel) rfl (by decide +kernel) (by decide +kernel) ?_
      rintro r_20 w ⟨m_trouble2_19, iv_21, rfl⟩
      refine k_ws [(cAI g a_st 44 d_st), (cAI g a_from 8 d_from), (cAI g a_begin 8 d_begin), (cAI g a_motor 8 d_motor), (cAI g a_change 8 d_change), (cAI g a_startFrame 8 d_startFrame), (cAI g a_changeFrame 8 d_changeFrame), (cAI g a_lostAt 8 d_lostAt), (cAI g a_blackAt 8 d_blackAt), (cAI g a_slips 8 d_slips), (cAI g a_there 8 d_there), (cAI g a_backAt 4 d_backAt), (cAI g a_r 311 d_r), (cO11_i1r1i10r1i2r5i2r12i3r4i2 h0 m_thrown2_1 a_tape m_taped m_size m_at m_end m_token m_whole m_nameSize m_fault m_place m_trouble2_19 a_letters m_failed m_hasHouse a_r a_fresh a_st a_undone a_kept m_undos m_images a_from a_begin a_motor a_change a_startFrame a_changeFrame a_lostAt a_blackAt a_slips a_leftArc a_died a_arcs m_bestSum m_nearest m_nearestTown a_there a_backAt a_sorted a_parts m_seed1 m_darkNow)] rfl ?_
      exact k_iret X hr dX11_waits_48 (Nat.le_of_ble_eq_true rfl) (Nat.le_of_ble_eq_true rfl) [13, 12, 0, 1, 2, 3, 4, 5, 6, 7, 8, 9, 10, 11] (by decide) rfl rfl ⟨d_backAt, d_begin, d_blackAt, d_change, d_changeFrame, d_from, d_lostAt, d_motor, d_slips, d_startFrame, d_there, m_thrown2_1, m_trouble2_19, rfl⟩
    · skip
      have hc_22 := hk_13.resolve_left h_15
      have j_23 : 0 ≤ p1.toInt := hc_22.1
      have iv_24 : IV p1 0 2147483647 := iv_leR hc_22.1 (show IV 0 0 0 from (by decide)) (iv_any p1) (by decide)
      have j_25 : p1.toInt ≤ 4 := hc_22.2
      have iv_26 : IV p1 0 4 := iv_leL hc_22.2 iv_24 (show IV 4 4 4 from (by decide)) (by decide)
      have iv_27 : IV r_11 1 1 := iv_neL h_15 iv_12 (show IV 0 0 0 from (by decide)) (by decide)
      refine k_iload_n X dX11_waits_32 4 rfl ?_
      refine k_iconst (v := 0) X dX11_waits_33 (by decide) ?_
      refine k_sipush (v := 9999) X dX11_waits_34 (by decide) ?_
      refine k_callSI (n := 3) (As := [.int p2, .int 0, .int 9999]) (st := []) X [] [(cAI g a_st 44 d_st), (cAI g a_from 8 d_from), (cAI g a_begin 8 d_begin), (cAI g a_motor 8 d_motor), (cAI g a_change 8 d_change), (cAI g a_startFrame 8 d_startFrame), (cAI g a_changeFrame 8 d_changeFrame), (cAI g a_lostAt 8 d_lostAt), (cAI g a_blackAt 8 d_blackAt), (cAI g a_slips 8 d_slips), (cAI g a_there 8 d_there), (cAI g a_backAt 4 d_backAt), (cO11_i1r1i10r1i2r5i2r12i3r4i2 h0 m_thrown2_1 a_tape m_taped m_size m_at m_end m_token m_whole m_nameSize m_fault m_place m_trouble2_2 a_letters m_failed m_hasHouse a_r a_fresh a_st a_undone a_kept m_undos m_images a_from a_begin a_motor a_change a_startFrame a_changeFrame a_lostAt a_blackAt a_slips a_leftArc a_died a_arcs m_bestSum m_nearest m_nearestTown a_there a_backAt a_sorted a_parts m_seed1 m_darkNow), (cAI g a_r 311 d_r)] [] [0, 1, 2, 3, 4, 5, 6, 7, 8, 9, 10, 11, 12, 13] (m_in l g p2 0 9999) dX11_waits_37 mw482 mw483 mw5 mw484 yk_yX11_in_3 rfl (Nat.le_of_ble_eq_true rfl) (Nat.le_of_ble_eq_true rfl) (Nat.le_of_ble_eq_true rfl) (Nat.le_of_ble_eq_true rfl) (Nat.le_of_ble_eq_true rfl) rfl rfl (by decide +kernel) rfl (by decide +kernel) (by decide +kernel) ?_
      rintro r_28 w ⟨iv_29, hk_30, hk_31, rfl⟩
      refine k_ws [(cAI g a_st 44 d_st), (cAI g a_from 8 d_from), (cAI g a_begin 8 d_begin), (cAI g a_motor 8 d_motor), (cAI g a_change 8 d_change), (cAI g a_startFrame 8 d_startFrame), (cAI g a_changeFrame 8 d_changeFrame), (cAI g a_lostAt 8 d_lostAt), (cAI g a_blackAt 8 d_blackAt), (cAI g a_slips 8 d_slips), (cAI g a_there 8 d_there), (cAI g a_backAt 4 d_backAt), (cO11_i1r1i10r1i2r5i2r12i3r4i2 h0 m_thrown2_1 a_tape m_taped m_size m_at m_end m_token m_whole m_nameSize m_fault m_place m_trouble2_2 a_letters m_failed m_hasHouse a_r a_fresh a_st a_undone a_kept m_undos m_images a_from a_begin a_motor a_change a_startFrame a_changeFrame a_lostAt a_blackAt a_slips a_leftArc a_died a_arcs m_bestSum m_nearest m_nearestTown a_there a_backAt a_sorted a_parts m_seed1 m_darkNow), (cAI g a_r 311 d_r)] rfl ?_
      refine k_if_ne 49 X dX11_waits_40 (by decide) (fun h_32 => ?_) (fun h_32 => ?_)
      · skip
        have hc_33 := hk_30.resolve_left h_32
        have j_34 : 0 ≤ p2.toInt := hc_33.1
        have iv_35 : IV p2 0 2147483647 := iv_leR hc_33.1 (show IV 0 0 0 from (by decide)) (iv_any p2) (by decide)
        have j_36 : p2.toInt ≤ 9999 := hc_33.2
        have iv_37 : IV p2 0 9999 := iv_leL hc_33.2 iv_35 (show IV 9999 9999 9999 from (by decide)) (by decide)
        have iv_38 : IV r_28 1 1 := iv_neL h_32 iv_29 (show IV 0 0 0 from (by decide)) (by decide)
        refine k_aload_n X dX11_waits_49 1 rfl ?_
        refine k_iload_n X dX11_waits_50 2 rfl ?_
        refine k_iload_n X dX11_waits_51 3 rfl ?_
        refine k_if_ne 66 X dX11_waits_52 (by decide) (fun h_39 => ?_) (fun h_39 => ?_)
        · skip
          have iv_40 : IV p1 1 4 := iv_neL h_39 iv_26 (show IV 0 0 0 from (by decide)) (by decide)
          refine k_iload_n X dX11_waits_66 3 rfl ?_
          refine k_callVV (n := 2) (As := [.int p0, .int p1]) (st := []) X [(cO11_i1r1i10r1i2r5i2r12i3r4i2 h0 m_thrown2_1 a_tape m_taped m_size m_at m_end m_token m_whole m_nameSize m_fault m_place m_trouble2_2 a_letters m_failed m_hasHouse a_r a_fresh a_st a_undone a_kept m_undos m_images a_from a_begin a_motor a_change a_startFrame a_changeFrame a_lostAt a_blackAt a_slips a_leftArc a_died a_arcs m_bestSum m_nearest m_nearestTown a_there a_backAt a_sorted a_parts m_seed1 m_darkNow), (cAI g a_r 311 d_r), (cAI g a_st 44 d_st), (cAI g a_from 8 d_from), (cAI g a_begin 8 d_begin), (cAI g a_motor 8 d_motor), (cAI g a_change 8 d_change), (cAI g a_startFrame 8 d_startFrame), (cAI g a_changeFrame 8 d_changeFrame), (cAI g a_lostAt 8 d_lostAt), (cAI g a_blackAt 8 d_blackAt), (cAI g a_slips 8 d_slips), (cAI g a_there 8 d_there), (cAI g a_backAt 4 d_backAt)] [] [12, 13, 0, 1, 2, 3, 4, 5, 6, 7, 8, 9, 10, 11] [] (m_carry l g h0 p0 p1 m_thrown2_1 a_tape m_taped m_size m_at m_end m_token m_whole m_nameSize m_fault m_place m_trouble2_2 a_letters m_failed m_hasHouse a_r a_fresh a_st a_undone a_kept m_undos m_images a_from a_begin a_motor a_change a_startFrame a_changeFrame a_lostAt a_blackAt a_slips a_leftArc a_died a_arcs m_bestSum m_nearest m_nearestTown a_there a_backAt a_sorted a_parts m_seed1 m_darkNow d_r d_st d_from d_begin d_motor d_change d_startFrame d_changeFrame d_lostAt d_blackAt d_slips d_there d_backAt (iv_w iv_10 (by decide) (by decide)) (iv_w iv_40 (by decide) (by decide)) hp_d_r) dX11_waits_67 mw1323 mw1324 mw1325 mw5 mw1326 rfl 11 rfl rfl 0 _ rfl yk_yX11_carry_2 rfl (Nat.le_of_ble_eq_true rfl) (Nat.le_of_ble_eq_true rfl) (Nat.le_of_ble_eq_true rfl) (Nat.le_of_ble_eq_true rfl) (Nat.le_of_ble_eq_true rfl) rfl rfl (by decide +kernel) rfl (by decide +kernel) (by decide +kernel) ?_
          intro w zq
          refine exL11 zq ?_
          clear zq
          intro d_backAt2_41 d_begin2_42 d_blackAt2_43 d_change2_44 d_changeFrame2_45 d_from2_46 d_lostAt2_47 d_motor2_48 d_slips2_49 d_startFrame2_50 d_there2_51 zq
          subst zq
          refine k_ws [(cO11_i1r1i10r1i2r5i2r12i3r4i2 h0 m_thrown2_1 a_tape m_taped m_size m_at m_end m_token m_whole m_nameSize m_fault m_place m_trouble2_2 a_letters m_failed m_hasHouse a_r a_fresh a_st a_undone a_kept m_undos m_images a_from a_begin a_motor a_change a_startFrame a_changeFrame a_lostAt a_blackAt a_slips a_leftArc a_died a_arcs m_bestSum m_nearest m_nearestTown a_there a_backAt a_sorted a_parts m_seed1 m_darkNow), (cAI g a_r 311 d_r), (cAI g a_st 44 d_st), (cAI g a_from 8 d_from2_46), (cAI g a_begin 8 d_begin2_42), (cAI g a_motor 8 d_motor2_48), (cAI g a_change 8 d_change2_44), (cAI g a_startFrame 8 d_startFrame2_50), (cAI g a_changeFrame 8 d_changeFrame2_45), (cAI g a_lostAt 8 d_lostAt2_47), (cAI g a_blackAt 8 d_blackAt2_43), (cAI g a_slips 8 d_slips2_49), (cAI g a_there 8 d_there2_51), (cAI g a_backAt 4 d_backAt2_41)] rfl ?_
          refine k_iconst (v := 0) X dX11_waits_70 (by decide) ?_
          refine k_istore [(5, .int 0), (4, .int r_4), (0, .ref h0), (1, .int p0), (2, .int p1), (3, .int p2)] X dX11_waits_71 (by decide) rfl ?_
          refine k_iload_n X dX11_waits_73 5 rfl ?_
          refine k_istore [(6, .int p2), (5, .int 0), (4, .int r_4), (0, .ref h0), (1, .int p0), (2, .int p1), (3, .int p2)] X dX11_waits_74 (by decide) rfl ?_
          refine k_iconst (v := 0) X dX11_waits_76 (by decide) ?_
          refine k_istore [(7, .int 0), (6, .int p2), (5, .int 0), (4, .int r_4), (0, .ref h0), (1, .int p0), (2, .int p1), (3, .int p2)] X dX11_waits_77 (by decide) rfl ?_
          refine (fun hL : ∀ (nn_57 : Nat) (u_53 : Int32) (u_54 : Int32) (u_55 : Int32), (2147483647 - u_55.toInt).toNat = nn_57 → (IV u_55 0 8) → Wk p l e _ s m args below meth c _ A g _ _ _ [(cO11_i1r1i10r1i2r5i2r12i3r4i2 h0 m_thrown2_1 a_tape m_taped m_size m_at m_end m_token m_whole m_nameSize m_fault m_place m_trouble2_2 a_letters m_failed m_hasHouse a_r a_fresh a_st a_undone a_kept m_undos m_images a_from a_begin a_motor a_change a_startFrame a_changeFrame a_lostAt a_blackAt a_slips a_leftArc a_died a_arcs m_bestSum m_nearest m_nearestTown a_there a_backAt a_sorted a_parts m_seed1 m_darkNow), (cAI g a_r 311 d_r), (cAI g a_st 44 d_st), (cAI g a_from 8 d_from2_46), (cAI g a_begin 8 d_begin2_42), (cAI g a_motor 8 d_motor2_48), (cAI g a_change 8 d_change2_44), (cAI g a_startFrame 8 d_startFrame2_50), (cAI g a_changeFrame 8 d_changeFrame2_45), (cAI g a_lostAt 8 d_lostAt2_47), (cAI g a_blackAt 8 d_blackAt2_43), (cAI g a_slips 8 d_slips2_49), (cAI g a_there 8 d_there2_51), (cAI g a_backAt 4 d_backAt2_41)] [(7, .int u_55), (6, .int u_54), (5, .int u_53), (4, .int r_4), (0, .ref h0), (1, .int p0), (2, .int p1), (3, .int p2)] 79 [] => hL _ 0 p2 0 rfl (iv_w (show IV 0 0 0 from (by decide)) (by decide) (by decide))) ?_
          refine fun nn_57 => Nat.strongRecOn nn_57 (fun nn_57 ih_59 => ?_)
          intro u_53 u_54 u_55 hm_58 hv_56
          refine k_iload X dX11_waits_79 0 rfl ?_
          refine k_aload_n X dX11_waits_81 4 rfl ?_
          refine k_get (ci := 11) X inlX11 rfl 15 (by decide) dX11_waits_82 mw170 0 rfl rfl ?_
          refine k_bipush (v := 12) X dX11_waits_85 (by decide) ?_
          refine k_iald X dX11_waits_87 1 rfl (by unfold vp_in; decide) ?_
          refine k_nm (fun z_60 ez_60 => ?_)
          have i_61 : z_60.toInt = (d_r 12).toInt := by rw [ez_60]; rfl
          have iv_62 : IV z_60 0 8 := rb_12 ez_60 hp_d_r
          refine k_ic_ge 135 X dX11_waits_88 (by decide) (fun h_63 => ?_) (fun h_63 => ?_)
          · skip
            have j_64 : z_60.toInt ≤ u_55.toInt := iv_le h_63
            refine k_iload X dX11_waits_135 2 rfl ?_
            exact k_iret X hr dX11_waits_137 (Nat.le_of_ble_eq_true rfl) (Nat.le_of_ble_eq_true rfl) [0, 1, 2, 3, 4, 5, 6, 7, 8, 9, 10, 11, 12, 13] (by decide) rfl rfl ⟨d_backAt2_41, d_begin2_42, d_blackAt2_43, d_change2_44, d_changeFrame2_45, d_from2_46, d_lostAt2_47, d_motor2_48, d_slips2_49, d_startFrame2_50, d_there2_51, m_thrown2_1, m_trouble2_2, rfl⟩
          · skip
            have j_65 : u_55.toInt < z_60.toInt := iv_nle h_63
            have iv_66 : IV u_55 0 7 := iv_ltL (iv_nle h_63) hv_56 iv_62 (by decide)
            have iv_67 : IV z_60 1 8 := iv_ltR (iv_nle h_63) hv_56 iv_62 (by decide)
            refine k_iconst (v := 0) X dX11_waits_91 (by decide) ?_
            refine k_aload_n X dX11_waits_92 4 rfl ?_
            refine k_get (ci := 11) X inlX11 rfl 37 (by decide) dX11_waits_93 mw187 0 rfl rfl ?_
            refine k_iload X dX11_waits_96 0 rfl ?_
            refine k_iald X dX11_waits_98 12 rfl (iv_in iv_66 (by decide) (by decide)) ?_
            refine k_nm (fun z_68 ez_68 => ?_)
            refine k_aload_n X dX11_waits_99 4 rfl ?_
            refine k_get (ci := 11) X inlX11 rfl 23 (by decide) dX11_waits_100 mw176 0 rfl rfl ?_
            refine k_iload X dX11_waits_103 0 rfl ?_
            refine k_iald X dX11_waits_105 4 rfl (iv_in iv_66 (by decide) (by decide)) ?_
            refine k_nm (fun z_69 ez_69 => ?_)
            refine k_isub X dX11_waits_106 ?_
            refine k_nm (fun z_70 ez_70 => ?_)
            refine k_iload X dX11_waits_107 1 rfl ?_
            refine k_isub X dX11_waits_109 ?_
            refine k_nm (fun z_72 ez_72 => ?_)
            refine k_callSI (n := 2) (As := [.int 0, .int z_72]) (st := []) X [] [(cO11_i1r1i10r1i2r5i2r12i3r4i2 h0 m_thrown2_1 a_tape m_taped m_size m_at m_end m_token m_whole m_nameSize m_fault m_place m_trouble2_2 a_letters m_failed m_hasHouse a_r a_fresh a_st a_undone a_kept m_undos m_images a_from a_begin a_motor a_change a_startFrame a_changeFrame a_lostAt a_blackAt a_slips a_leftArc a_died a_arcs m_bestSum m_nearest m_nearestTown a_there a_backAt a_sorted a_parts m_seed1 m_darkNow), (cAI g a_r 311 d_r), (cAI g a_st 44 d_st), (cAI g a_from 8 d_from2_46), (cAI g a_begin 8 d_begin2_42), (cAI g a_motor 8 d_motor2_48), (cAI g a_change 8 d_change2_44), (cAI g a_startFrame 8 d_startFrame2_50), (cAI g a_changeFrame 8 d_changeFrame2_45), (cAI g a_lostAt 8 d_lostAt2_47), (cAI g a_blackAt 8 d_blackAt2_43), (cAI g a_slips 8 d_slips2_49), (cAI g a_there 8 d_there2_51), (cAI g a_backAt 4 d_backAt2_41)] [] [0, 1, 2, 3, 4, 5, 6, 7, 8, 9, 10, 11, 12, 13] (m_most l g 0 z_72) dX11_waits_110 mw842 mw843 mw5 mw844 yk_yX11_most_2 rfl (Nat.le_of_ble_eq_true rfl) (Nat.le_of_ble_eq_true rfl) (Nat.le_of_ble_eq_true rfl) (Nat.le_of_ble_eq_true rfl) (Nat.le_of_ble_eq_true rfl) rfl rfl (by decide +kernel) rfl (by decide +kernel) (by decide +kernel) ?_
            rintro r_74 w rfl
            refine k_ws [(cO11_i1r1i10r1i2r5i2r12i3r4i2 h0 m_thrown2_1 a_tape m_taped m_size m_at m_end m_token m_whole m_nameSize m_fault m_place m_trouble2_2 a_letters m_failed m_hasHouse a_r a_fresh a_st a_undone a_kept m_undos m_images a_from a_begin a_motor a_change a_startFrame a_changeFrame a_lostAt a_blackAt a_slips a_leftArc a_died a_arcs m_bestSum m_nearest m_nearestTown a_there a_backAt a_sorted a_parts m_seed1 m_darkNow), (cAI g a_r 311 d_r), (cAI g a_st 44 d_st), (cAI g a_from 8 d_from2_46), (cAI g a_begin 8 d_begin2_42), (cAI g a_motor 8 d_motor2_48), (cAI g a_change 8 d_change2_44), (cAI g a_startFrame 8 d_startFrame2_50), (cAI g a_changeFrame 8 d_changeFrame2_45), (cAI g a_lostAt 8 d_lostAt2_47), (cAI g a_blackAt 8 d_blackAt2_43), (cAI g a_slips 8 d_slips2_49), (cAI g a_there 8 d_there2_51), (cAI g a_backAt 4 d_backAt2_41)] rfl ?_
            refine k_istore [(8, .int r_74), (7, .int u_55), (6, .int u_54), (5, .int u_53), (4, .int r_4), (0, .ref h0), (1, .int p0), (2, .int p1), (3, .int p2)] X dX11_waits_113 (by decide) rfl ?_
            refine k_iload X dX11_waits_115 3 rfl ?_
            refine k_iload X dX11_waits_117 0 rfl ?_
            refine k_iadd X dX11_waits_119 ?_
            refine k_nm (fun z_75 ez_75 => ?_)
            refine k_istore [(5, .int z_75), (8, .int r_74), (7, .int u_55), (6, .int u_54), (4, .int r_4), (0, .ref h0), (1, .int p0), (2, .int p1), (3, .int p2)] X dX11_waits_120 (by decide) rfl ?_
            refine k_iload X dX11_waits_122 3 rfl ?_
            refine k_iload X dX11_waits_124 1 rfl ?_
            refine k_iadd X dX11_waits_126 ?_
            refine k_nm (fun z_77 ez_77 => ?_)
            refine k_istore [(6, .int z_77), (5, .int z_75), (8, .int r_74), (7, .int u_55), (4, .int r_4), (0, .ref h0), (1, .int p0), (2, .int p1), (3, .int p2)] X dX11_waits_127 (by decide) rfl ?_
            obtain ⟨z_79, ez_79⟩ : ∃ y : Int32, u_55 + Int32.ofInt 1 = y := ⟨_, rfl⟩
            refine k_iinc z_79 [(7, .int z_79), (6, .int z_77), (5, .int z_75), (8, .int r_74), (4, .int r_4), (0, .ref h0), (1, .int p0), (2, .int p1), (3, .int p2)] 3 X dX11_waits_129 rfl ez_79 (by decide) rfl ?_
            have i_80 : z_79.toInt = u_55.toInt + 1 := in_inc ez_79 (by decide) iv_66 (by decide) (by decide)
            have iv_81 : IV z_79 1 8 := iz1 i_80 iv_66 (by decide) (by decide)
            refine k_goto 79 X dX11_waits_132 (by decide) ?_
            refine k_lv [(7, .int z_79), (6, .int z_77), (5, .int z_75), (4, .int r_4), (0, .ref h0), (1, .int p0), (2, .int p1), (3, .int p2)] [0, 1, 2, 4, 5, 6, 7, 8] rfl ?_
            exact ih_59 _ (by omega) z_75 z_77 z_79 rfl (iv_w iv_81 (by decide) (by decide))
        · skip
          have iv_82 : IV p1 0 0 := iv_meet iv_26 (iv_e h_39 (show IV 0 0 0 from (by decide))) (by decide) (by decide)
          refine k_aload_n X dX11_waits_55 1 rfl ?_
          refine k_get (ci := 11) X inlX11 rfl 15 (by decide) dX11_waits_56 mw170 12 rfl rfl ?_
          refine k_sipush (v := 134) X dX11_waits_59 (by decide) ?_
          refine k_iald X dX11_waits_62 13 rfl (by unfold vp_in; decide) ?_
          refine k_nm (fun z_83 ez_83 => ?_)
          have i_84 : z_83.toInt = (d_r 134).toInt := by rw [ez_83]; rfl
          have iv_85 : IV z_83 0 4 := rb_134 ez_83 hp_d_r
          refine k_goto 67 X dX11_waits_63 (by decide) ?_
          refine k_callVV (n := 2) (As := [.int p0, .int z_83]) (st := []) X [(cO11_i1r1i10r1i2r5i2r12i3r4i2 h0 m_thrown2_1 a_tape m_taped m_size m_at m_end m_token m_whole m_nameSize m_fault m_place m_trouble2_2 a_letters m_failed m_hasHouse a_r a_fresh a_st a_undone a_kept m_undos m_images a_from a_begin a_motor a_change a_startFrame a_changeFrame a_lostAt a_blackAt a_slips a_leftArc a_died a_arcs m_bestSum m_nearest m_nearestTown a_there a_backAt a_sorted a_parts m_seed1 m_darkNow), (cAI g a_r 311 d_r), (cAI g a_st 44 d_st), (cAI g a_from 8 d_from), (cAI g a_begin 8 d_begin), (cAI g a_motor 8 d_motor), (cAI g a_change 8 d_change), (cAI g a_startFrame 8 d_startFrame), (cAI g a_changeFrame 8 d_changeFrame), (cAI g a_lostAt 8 d_lostAt), (cAI g a_blackAt 8 d_blackAt), (cAI g a_slips 8 d_slips), (cAI g a_there 8 d_there), (cAI g a_backAt 4 d_backAt)] [] [12, 13, 0, 1, 2, 3, 4, 5, 6, 7, 8, 9, 10, 11] [] (m_carry l g h0 p0 z_83 m_thrown2_1 a_tape m_taped m_size m_at m_end m_token m_whole m_nameSize m_fault m_place m_trouble2_2 a_letters m_failed m_hasHouse a_r a_fresh a_st a_undone a_kept m_undos m_images a_from a_begin a_motor a_change a_startFrame a_changeFrame a_lostAt a_blackAt a_slips a_leftArc a_died a_arcs m_bestSum m_nearest m_nearestTown a_there a_backAt a_sorted a_parts m_seed1 m_darkNow d_r d_st d_from d_begin d_motor d_change d_startFrame d_changeFrame d_lostAt d_blackAt d_slips d_there d_backAt (iv_w iv_10 (by decide) (by decide)) (iv_w iv_85 (by decide) (by decide)) hp_d_r) dX11_waits_67 mw1323 mw1324 mw1325 mw5 mw1326 rfl 11 rfl rfl 0 _ rfl yk_yX11_carry_2 rfl (Nat.le_of_ble_eq_true rfl) (Nat.le_of_ble_eq_true rfl) (Nat.le_of_ble_eq_true rfl) (Nat.le_of_ble_eq_true rfl) (Nat.le_of_ble_eq_true rfl) rfl rfl (by decide +kernel) rfl (by decide +kernel) (by decide +kernel) ?_
          intro w zq
          refine exL11 zq ?_
          clear zq
          intro d_backAt2_86 d_begin2_87 d_blackAt2_88 d_change2_89 d_changeFrame2_90 d_from2_91 d_lostAt2_92 d_motor2_93 d_slips2_94 d_startFrame2_95 d_there2_96 zq
          subst zq
          refine k_ws [(cO11_i1r1i10r1i2r5i2r12i3r4i2 h0 m_thrown2_1 a_tape m_taped m_size m_at m_end m_token m_whole m_nameSize m_fault m_place m_trouble2_2 a_letters m_failed m_hasHouse a_r a_fresh a_st a_undone a_kept m_undos m_images a_from a_begin a_motor a_change a_startFrame a_changeFrame a_lostAt a_blackAt a_slips a_leftArc a_died a_arcs m_bestSum m_nearest m_nearestTown a_there a_backAt a_sorted a_parts m_seed1 m_darkNow), (cAI g a_r 311 d_r), (cAI g a_st 44 d_st), (cAI g a_from 8 d_from2_91), (cAI g a_begin 8 d_begin2_87), (cAI g a_motor 8 d_motor2_93), (cAI g a_change 8 d_change2_89), (cAI g a_startFrame 8 d_startFrame2_95), (cAI g a_changeFrame 8 d_changeFrame2_90), (cAI g a_lostAt 8 d_lostAt2_92), (cAI g a_blackAt 8 d_blackAt2_88), (cAI g a_slips 8 d_slips2_94), (cAI g a_there 8 d_there2_96), (cAI g a_backAt 4 d_backAt2_86)] rfl ?_
          refine k_iconst (v := 0) X dX11_waits_70 (by decide) ?_
          refine k_istore [(5, .int 0), (4, .int r_4), (0, .ref h0), (1, .int p0), (2, .int p1), (3, .int p2)] X dX11_waits_71 (by decide) rfl ?_
          refine k_iload_n X dX11_waits_73 5 rfl ?_
          refine k_istore [(6, .int p2), (5, .int 0), (4, .int r_4), (0, .ref h0), (1, .int p0), (2, .int p1), (3, .int p2)] X dX11_waits_74 (by decide) rfl ?_
          refine k_iconst (v := 0) X dX11_waits_76 (by decide) ?_
          refine k_istore [(7, .int 0), (6, .int p2), (5, .int 0), (4, .int r_4), (0, .ref h0), (1, .int p0), (2, .int p1), (3, .int p2)] X dX11_waits_77 (by decide) rfl ?_
          refine (fun hL : ∀ (nn_102 : Nat) (u_98 : Int32) (u_99 : Int32) (u_100 : Int32), (2147483647 - u_100.toInt).toNat = nn_102 → (IV u_100 0 8) → Wk p l e _ s m args below meth c _ A g _ _ _ [(cO11_i1r1i10r1i2r5i2r12i3r4i2 h0 m_thrown2_1 a_tape m_taped m_size m_at m_end m_token m_whole m_nameSize m_fault m_place m_trouble2_2 a_letters m_failed m_hasHouse a_r a_fresh a_st a_undone a_kept m_undos m_images a_from a_begin a_motor a_change a_startFrame a_changeFrame a_lostAt a_blackAt a_slips a_leftArc a_died a_arcs m_bestSum m_nearest m_nearestTown a_there a_backAt a_sorted a_parts m_seed1 m_darkNow), (cAI g a_r 311 d_r), (cAI g a_st 44 d_st), (cAI g a_from 8 d_from2_91), (cAI g a_begin 8 d_begin2_87), (cAI g a_motor 8 d_motor2_93), (cAI g a_change 8 d_change2_89), (cAI g a_startFrame 8 d_startFrame2_95), (cAI g a_changeFrame 8 d_changeFrame2_90), (cAI g a_lostAt 8 d_lostAt2_92), (cAI g a_blackAt 8 d_blackAt2_88), (cAI g a_slips 8 d_slips2_94), (cAI g a_there 8 d_there2_96), (cAI g a_backAt 4 d_backAt2_86)] [(7, .int u_100), (6, .int u_99), (5, .int u_98), (4, .int r_4), (0, .ref h0), (1, .int p0), (2, .int p1), (3, .int p2)] 79 [] => hL _ 0 p2 0 rfl (iv_w (show IV 0 0 0 from (by decide)) (by decide) (by decide))) ?_
          refine fun nn_102 => Nat.strongRecOn nn_102 (fun nn_102 ih_104 => ?_)
          intro u_98 u_99 u_100 hm_103 hv_101
          refine k_iload X dX11_waits_79 0 rfl ?_
          refine k_aload_n X dX11_waits_81 4 rfl ?_
          refine k_get (ci := 11) X inlX11 rfl 15 (by decide) dX11_waits_82 mw170 0 rfl rfl ?_
          refine k_bipush (v := 12) X dX11_waits_85 (by decide) ?_
          refine k_iald X dX11_waits_87 1 rfl (by unfold vp_in; decide) ?_
          refine k_nm (fun z_105 ez_105 => ?_)
          have i_106 : z_105.toInt = (d_r 12).toInt := by rw [ez_105]; rfl
          have iv_107 : IV z_105 0 8 := rb_12 ez_105 hp_d_r
          refine k_ic_ge 135 X dX11_waits_88 (by decide) (fun h_108 => ?_) (fun h_108 => ?_)
          · skip
            have j_109 : z_105.toInt ≤ u_100.toInt := iv_le h_108
            refine k_iload X dX11_waits_135 2 rfl ?_
            exact k_iret X hr dX11_waits_137 (Nat.le_of_ble_eq_true rfl) (Nat.le_of_ble_eq_true rfl) [0, 1, 2, 3, 4, 5, 6, 7, 8, 9, 10, 11, 12, 13] (by decide) rfl rfl ⟨d_backAt2_86, d_begin2_87, d_blackAt2_88, d_change2_89, d_changeFrame2_90, d_from2_91, d_lostAt2_92, d_motor2_93, d_slips2_94, d_startFrame2_95, d_there2_96, m_thrown2_1, m_trouble2_2, rfl⟩
          · skip
            have j_110 : u_100.toInt < z_105.toInt := iv_nle h_108
            have iv_111 : IV u_100 0 7 := iv_ltL (iv_nle h_108) hv_101 iv_107 (by decide)
            have iv_112 : IV z_105 1 8 := iv_ltR (iv_nle h_108) hv_101 iv_107 (by decide)
            refine k_iconst (v := 0) X dX11_waits_91 (by decide) ?_
            refine k_aload_n X dX11_waits_92 4 rfl ?_
            refine k_get (ci := 11) X inlX11 rfl 37 (by decide) dX11_waits_93 mw187 0 rfl rfl ?_
            refine k_iload X dX11_waits_96 0 rfl ?_
            refine k_iald X dX11_waits_98 12 rfl (iv_in iv_111 (by decide) (by decide)) ?_
            refine k_nm (fun z_113 ez_113 => ?_)
            refine k_aload_n X dX11_waits_99 4 rfl ?_
            refine k_get (ci := 11) X inlX11 rfl 23 (by decide) dX11_waits_100 mw176 0 rfl rfl ?_
            refine k_iload X dX11_waits_103 0 rfl ?_
            refine k_iald X dX11_waits_105 4 rfl (iv_in iv_111 (by decide) (by decide)) ?_
            refine k_nm (fun z_114 ez_114 => ?_)
            refine k_isub X dX11_waits_106 ?_
            refine k_nm (fun z_115 ez_115 => ?_)
            refine k_iload X dX11_waits_107 1 rfl ?_
            refine k_isub X dX11_waits_109 ?_
            refine k_nm (fun z_117 ez_117 => ?_)
            refine k_callSI (n := 2) (As := [.int 0, .int z_117]) (st := []) X [] [(cO11_i1r1i10r1i2r5i2r12i3r4i2 h0 m_thrown2_1 a_tape m_taped m_size m_at m_end m_token m_whole m_nameSize m_fault m_place m_trouble2_2 a_letters m_failed m_hasHouse a_r a_fresh a_st a_undone a_kept m_undos m_images a_from a_begin a_motor a_change a_startFrame a_changeFrame a_lostAt a_blackAt a_slips a_leftArc a_died a_arcs m_bestSum m_nearest m_nearestTown a_there a_backAt a_sorted a_parts m_seed1 m_darkNow), (cAI g a_r 311 d_r), (cAI g a_st 44 d_st), (cAI g a_from 8 d_from2_91), (cAI g a_begin 8 d_begin2_87), (cAI g a_motor 8 d_motor2_93), (cAI g a_change 8 d_change2_89), (cAI g a_startFrame 8 d_startFrame2_95), (cAI g a_changeFrame 8 d_changeFrame2_90), (cAI g a_lostAt 8 d_lostAt2_92), (cAI g a_blackAt 8 d_blackAt2_88), (cAI g a_slips 8 d_slips2_94), (cAI g a_there 8 d_there2_96), (cAI g a_backAt 4 d_backAt2_86)] [] [0, 1, 2, 3, 4, 5, 6, 7, 8, 9, 10, 11, 12, 13] (m_most l g 0 z_117) dX11_waits_110 mw842 mw843 mw5 mw844 yk_yX11_most_2 rfl (Nat.le_of_ble_eq_true rfl) (Nat.le_of_ble_eq_true rfl) (Nat.le_of_ble_eq_true rfl) (Nat.le_of_ble_eq_true rfl) (Nat.le_of_ble_eq_true rfl) rfl rfl (by decide +kernel) rfl (by decide +kernel) (by decide +kernel) ?_
            rintro r_119 w rfl
            refine k_ws [(cO11_i1r1i10r1i2r5i2r12i3r4i2 h0 m_thrown2_1 a_tape m_taped m_size m_at m_end m_token m_whole m_nameSize m_fault m_place m_trouble2_2 a_letters m_failed m_hasHouse a_r a_fresh a_st a_undone a_kept m_undos m_images a_from a_begin a_motor a_change a_startFrame a_changeFrame a_lostAt a_blackAt a_slips a_leftArc a_died a_arcs m_bestSum m_nearest m_nearestTown a_there a_backAt a_sorted a_parts m_seed1 m_darkNow), (cAI g a_r 311 d_r), (cAI g a_st 44 d_st), (cAI g a_from 8 d_from2_91), (cAI g a_begin 8 d_begin2_87), (cAI g a_motor 8 d_motor2_93), (cAI g a_change 8 d_change2_89), (cAI g a_startFrame 8 d_startFrame2_95), (cAI g a_changeFrame 8 d_changeFrame2_90), (cAI g a_lostAt 8 d_lostAt2_92), (cAI g a_blackAt 8 d_blackAt2_88), (cAI g a_slips 8 d_slips2_94), (cAI g a_there 8 d_there2_96), (cAI g a_backAt 4 d_backAt2_86)] rfl ?_
            refine k_istore [(8, .int r_119), (7, .int u_100), (6, .int u_99), (5, .int u_98), (4, .int r_4), (0, .ref h0), (1, .int p0), (2, .int p1), (3, .int p2)] X dX11_waits_113 (by decide) rfl ?_
            refine k_iload X dX11_waits_115 3 rfl ?_
            refine k_iload X dX11_waits_117 0 rfl ?_
            refine k_iadd X dX11_waits_119 ?_
            refine k_nm (fun z_120 ez_120 => ?_)
            refine k_istore [(5, .int z_120), (8, .int r_119), (7, .int u_100), (6, .int u_99), (4, .int r_4), (0, .ref h0), (1, .int p0), (2, .int p1), (3, .int p2)] X dX11_waits_120 (by decide) rfl ?_
            refine k_iload X dX11_waits_122 3 rfl ?_
            refine k_iload X dX11_waits_124 1 rfl ?_
            refine k_iadd X dX11_waits_126 ?_
            refine k_nm (fun z_122 ez_122 => ?_)
            refine k_istore [(6, .int z_122), (5, .int z_120), (8, .int r_119), (7, .int u_100), (4, .int r_4), (0, .ref h0), (1, .int p0), (2, .int p1), (3, .int p2)] X dX11_waits_127 (by decide) rfl ?_
            obtain ⟨z_124, ez_124⟩ : ∃ y : Int32, u_100 + Int32.ofInt 1 = y := ⟨_, rfl⟩
            refine k_iinc z_124 [(7, .int z_124), (6, .int z_122), (5, .int z_120), (8, .int r_119), (4, .int r_4), (0, .ref h0), (1, .int p0), (2, .int p1), (3, .int p2)] 3 X dX11_waits_129 rfl ez_124 (by decide) rfl ?_
            have i_125 : z_124.toInt = u_100.toInt + 1 := in_inc ez_124 (by decide) iv_111 (by decide) (by decide)
            have iv_126 : IV z_124 1 8 := iz1 i_125 iv_111 (by decide) (by decide)
            refine k_goto 79 X dX11_waits_132 (by decide) ?_
            refine k_lv [(7, .int z_124), (6, .int z_122), (5, .int z_120), (4, .int r_4), (0, .ref h0), (1, .int p0), (2, .int p1), (3, .int p2)] [0, 1, 2, 4, 5, 6, 7, 8] rfl ?_
            exact ih_104 _ (by omega) z_120 z_122 z_124 rfl (iv_w iv_126 (by decide) (by decide))
      · skip
        have iv_127 : IV r_28 0 0 := iv_meet iv_29 (iv_e h_32 (show IV 0 0 0 from (by decide))) (by decide) (by decide)
        have hc_128 := hk_31 (iv_eq iv_127 (show IV 0 0 0 from (by decide)))
        have j_129 : p2.toInt < 0 ∨ 9999 < p2.toInt := hc_128
        refine k_aload_n X dX11_waits_43 1 rfl ?_
        refine k_iconst (v := 2) X dX11_waits_44 (by decide) ?_
        refine k_callVI (n := 1) (As := [.int 2]) (st := []) X [(cO11_i1r1i10r1i2r5i2r12i3r4i2 h0 m_thrown2_1 a_tape m_taped m_size m_at m_end m_token m_whole m_nameSize m_fault m_place m_trouble2_2 a_letters m_failed m_hasHouse a_r a_fresh a_st a_undone a_kept m_undos m_images a_from a_begin a_motor a_change a_startFrame a_changeFrame a_lostAt a_blackAt a_slips a_leftArc a_died a_arcs m_bestSum m_nearest m_nearestTown a_there a_backAt a_sorted a_parts m_seed1 m_darkNow)] [(cAI g a_st 44 d_st), (cAI g a_from 8 d_from), (cAI g a_begin 8 d_begin), (cAI g a_motor 8 d_motor), (cAI g a_change 8 d_change), (cAI g a_startFrame 8 d_startFrame), (cAI g a_changeFrame 8 d_changeFrame), (cAI g a_lostAt 8 d_lostAt), (cAI g a_blackAt 8 d_blackAt), (cAI g a_slips 8 d_slips), (cAI g a_there 8 d_there), (cAI g a_backAt 4 d_backAt), (cAI g a_r 311 d_r)] [12] [0, 1, 2, 3, 4, 5, 6, 7, 8, 9, 10, 11, 13] (m_no l g h0 2 m_thrown2_1 a_tape m_taped m_size m_at m_end m_token m_whole m_nameSize m_fault m_place m_trouble2_2 a_letters m_failed m_hasHouse a_r a_fresh a_st a_undone a_kept m_undos m_images a_from a_begin a_motor a_change a_startFrame a_changeFrame a_lostAt a_blackAt a_slips a_leftArc a_died a_arcs m_bestSum m_nearest m_nearestTown a_there a_backAt a_sorted a_parts m_seed1 m_darkNow) dX11_waits_45 mw485 mw486 mw487 mw5 mw488 rfl 11 rfl rfl 0 _ rfl yk_yX11_no_1 rfl (Nat.le_of_ble_eq_true rfl) (Nat.le_of_ble_eq_true rfl) (Nat.le_of_ble_eq_true rfl) (Nat.le_of_ble_eq_true rfl) (Nat.le_of_ble_eq_true rfl) rfl rfl (by decide +kernel) rfl (by decide +kernel) (by decide +kernel) ?_
        rintro r_131 w ⟨m_trouble2_130, iv_132, rfl⟩
        refine k_ws [(cAI g a_st 44 d_st), (cAI g a_from 8 d_from), (cAI g a_begin 8 d_begin), (cAI g a_motor 8 d_motor), (cAI g a_change 8 d_change), (cAI g a_startFrame 8 d_startFrame), (cAI g a_changeFrame 8 d_changeFrame), (cAI g a_lostAt 8 d_lostAt), (cAI g a_blackAt 8 d_blackAt), (cAI g a_slips 8 d_slips), (cAI g a_there 8 d_there), (cAI g a_backAt 4 d_backAt), (cAI g a_r 311 d_r), (cO11_i1r1i10r1i2r5i2r12i3r4i2 h0 m_thrown2_1 a_tape m_taped m_size m_at m_end m_token m_whole m_nameSize m_fault m_place m_trouble2_130 a_letters m_failed m_hasHouse a_r a_fresh a_st a_undone a_kept m_undos m_images a_from a_begin a_motor a_change a_startFrame a_changeFrame a_lostAt a_blackAt a_slips a_leftArc a_died a_arcs m_bestSum m_nearest m_nearestTown a_there a_backAt a_sorted a_parts m_seed1 m_darkNow)] rfl ?_
        exact k_iret X hr dX11_waits_48 (Nat.le_of_ble_eq_true rfl) (Nat.le_of_ble_eq_true rfl) [13, 12, 0, 1, 2, 3, 4, 5, 6, 7, 8, 9, 10, 11] (by decide) rfl rfl ⟨d_backAt, d_begin, d_blackAt, d_change, d_changeFrame, d_from, d_lostAt, d_motor, d_slips, d_startFrame, d_there, m_thrown2_1, m_trouble2_130, rfl⟩
  · skip
    have iv_133 : IV r_4 1 6 := iv_neL h_7 iv_5 (show IV 0 0 0 from (by decide)) (by decide)
    refine k_aload_n X dX11_waits_16 1 rfl ?_
    refine k_iload X dX11_waits_17 0 rfl ?_
    refine k_callVI (n := 1) (As := [.int r_4]) (st := []) X [(cO11_i1r1i10r1i2r5i2r12i3r4i2 h0 m_thrown2_1 a_tape m_taped m_size m_at m_end m_token m_whole m_nameSize m_fault m_place m_trouble2_2 a_letters m_failed m_hasHouse a_r a_fresh a_st a_undone a_kept m_undos m_images a_from a_begin a_motor a_change a_startFrame a_changeFrame a_lostAt a_blackAt a_slips a_leftArc a_died a_arcs m_bestSum m_nearest m_nearestTown a_there a_backAt a_sorted a_parts m_seed1 m_darkNow)] [(cAI g a_st 44 d_st), (cAI g a_from 8 d_from), (cAI g a_begin 8 d_begin), (cAI g a_motor 8 d_motor), (cAI g a_change 8 d_change), (cAI g a_startFrame 8 d_startFrame), (cAI g a_changeFrame 8 d_changeFrame), (cAI g a_lostAt 8 d_lostAt), (cAI g a_blackAt 8 d_blackAt), (cAI g a_slips 8 d_slips), (cAI g a_there 8 d_there), (cAI g a_backAt 4 d_backAt), (cAI g a_r 311 d_r)] [12] [0, 1, 2, 3, 4, 5, 6, 7, 8, 9, 10, 11, 13] (m_no l g h0 r_4 m_thrown2_1 a_tape m_taped m_size m_at m_end m_token m_whole m_nameSize m_fault m_place m_trouble2_2 a_letters m_failed m_hasHouse a_r a_fresh a_st a_undone a_kept m_undos m_images a_from a_begin a_motor a_change a_startFrame a_changeFrame a_lostAt a_blackAt a_slips a_leftArc a_died a_arcs m_bestSum m_nearest m_nearestTown a_there a_backAt a_sorted a_parts m_seed1 m_darkNow) dX11_waits_19 mw485 mw486 mw487 mw5 mw488 rfl 11 rfl rfl 0 _ rfl yk_yX11_no_1 rfl (Nat.le_of_ble_eq_true rfl) (Nat.le_of_ble_eq_true rfl) (Nat.le_of_ble_eq_true rfl) (Nat.le_of_ble_eq_true rfl) (Nat.le_of_ble_eq_true rfl) rfl rfl (by decide +kernel) rfl (by decide +kernel) (by decide +kernel) ?_
    rintro r_135 w ⟨m_trouble2_134, iv_136, rfl⟩
    refine k_ws [(cAI g a_st 44 d_st), (cAI g a_from 8 d_from), (cAI g a_begin 8 d_begin), (cAI g a_motor 8 d_motor), (cAI g a_change 8 d_change), (cAI g a_startFrame 8 d_startFrame), (cAI g a_changeFrame 8 d_changeFrame), (cAI g a_lostAt 8 d_lostAt), (cAI g a_blackAt 8 d_blackAt), (cAI g a_slips 8 d_slips), (cAI g a_there 8 d_there), (cAI g a_backAt 4 d_backAt), (cAI g a_r 311 d_r), (cO11_i1r1i10r1i2r5i2r12i3r4i2 h0 m_thrown2_1 a_tape m_taped m_size m_at m_end m_token m_whole m_nameSize m_fault m_place m_trouble2_134 a_letters m_failed m_hasHouse a_r a_fresh a_st a_undone a_kept m_undos m_images a_from a_begin a_motor a_change a_startFrame a_changeFrame a_lostAt a_blackAt a_slips a_leftArc a_died a_arcs m_bestSum m_nearest m_nearestTown a_there a_backAt a_sorted a_parts m_seed1 m_darkNow)] rfl ?_
    exact k_iret X hr dX11_waits_22 (Nat.le_of_ble_eq_true rfl) (Nat.le_of_ble_eq_true rfl) [13, 12, 0, 1, 2, 3, 4, 5, 6, 7, 8, 9, 10, 11] (by decide) rfl rfl ⟨d_backAt, d_begin, d_blackAt, d_change, d_changeFrame, d_from, d_lostAt, d_motor, d_slips, d_startFrame, d_there, m_thrown2_1, m_trouble2_134, rfl⟩

theorem dX11_well_0 : decode cX11_well 0 = .ok (.aload_n 0, 1) := dk_42 rfl
theorem dX11_well_1 : decode cX11_well 1 = .ok (.invokevirtual 200, 3) := dk_182 rfl rfl rfl rfl
theorem dX11_well_4 : decode cX11_well 4 = .ok (.aload_n 0, 1) := dk_42 rfl
theorem dX11_well_5 : decode cX11_well 5 = .ok (.getfield 213, 3) := dk_180 rfl rfl rfl rfl
theorem dX11_well_8 : decode cX11_well 8 = .ok (.ifCond .ne 10, 3) := dk_154 rfl rfl rfl (by decide)
theorem dX11_well_11 : decode cX11_well 11 = .ok (.aload_n 0, 1) := dk_42 rfl
theorem dX11_well_12 : decode cX11_well 12 = .ok (.iconst 1, 1) := dk_4 rfl
theorem dX11_well_13 : decode cX11_well 13 = .ok (.invokevirtual 203, 3) := dk_182 rfl rfl rfl rfl
theorem dX11_well_16 : decode cX11_well 16 = .ok (.i2l, 1) := dk_133 rfl
theorem dX11_well_17 : decode cX11_well 17 = .ok (.lreturn, 1) := dk_173 rfl
theorem dX11_well_18 : decode cX11_well 18 = .ok (.aload_n 0, 1) := dk_42 rfl
theorem dX11_well_19 : decode cX11_well 19 = .ok (.getfield 20, 3) := dk_180 rfl rfl rfl rfl
theorem dX11_well_22 : decode cX11_well 22 = .ok (.sipush 134, 3) := dk_17 rfl rfl rfl (by decide)
theorem dX11_well_25 : decode cX11_well 25 = .ok (.iaload, 1) := dk_46 rfl
theorem dX11_well_26 : decode cX11_well 26 = .ok (.ifCond .ne 11, 3) := dk_154 rfl rfl rfl (by decide)
theorem dX11_well_29 : decode cX11_well 29 = .ok (.aload_n 0, 1) := dk_42 rfl
theorem dX11_well_30 : decode cX11_well 30 = .ok (.bipush 6, 2) := dk_16 rfl rfl (by decide)
theorem dX11_well_32 : decode cX11_well 32 = .ok (.invokevirtual 203, 3) := dk_182 rfl rfl rfl rfl
theorem dX11_well_35 : decode cX11_well 35 = .ok (.i2l, 1) := dk_133 rfl
theorem dX11_well_36 : decode cX11_well 36 = .ok (.lreturn, 1) := dk_173 rfl
theorem dX11_well_37 : decode cX11_well 37 = .ok (.bipush 100, 2) := dk_16 rfl rfl (by decide)
theorem dX11_well_39 : decode cX11_well 39 = .ok (.aload_n 0, 1) := dk_42 rfl
theorem dX11_well_40 : decode cX11_well 40 = .ok (.getfield 20, 3) := dk_180 rfl rfl rfl rfl
theorem dX11_well_43 : decode cX11_well 43 = .ok (.sipush 136, 3) := dk_17 rfl rfl rfl (by decide)
theorem dX11_well_46 : decode cX11_well 46 = .ok (.iaload, 1) := dk_46 rfl
theorem dX11_well_47 : decode cX11_well 47 = .ok (.isub, 1) := dk_100 rfl
theorem dX11_well_48 : decode cX11_well 48 = .ok (.aload_n 0, 1) := dk_42 rfl
theorem dX11_well_49 : decode cX11_well 49 = .ok (.getfield 20, 3) := dk_180 rfl rfl rfl rfl
theorem dX11_well_52 : decode cX11_well 52 = .ok (.bipush 12, 2) := dk_16 rfl rfl (by decide)
theorem dX11_well_54 : decode cX11_well 54 = .ok (.iaload, 1) := dk_46 rfl
theorem dX11_well_55 : decode cX11_well 55 = .ok (.invokestatic 415, 3) := dk_184 rfl rfl rfl rfl
theorem dX11_well_58 : decode cX11_well 58 = .ok (.bipush 100, 2) := dk_16 rfl rfl (by decide)
theorem dX11_well_60 : decode cX11_well 60 = .ok (.aload_n 0, 1) := dk_42 rfl
theorem dX11_well_61 : decode cX11_well 61 = .ok (.getfield 20, 3) := dk_180 rfl rfl rfl rfl
theorem dX11_well_64 : decode cX11_well 64 = .ok (.bipush 12, 2) := dk_16 rfl rfl (by decide)
theorem dX11_well_66 : decode cX11_well 66 = .ok (.iaload, 1) := dk_46 rfl
theorem dX11_well_67 : decode cX11_well 67 = .ok (.invokestatic 415, 3) := dk_184 rfl rfl rfl rfl
theorem dX11_well_70 : decode cX11_well 70 = .ok (.iload_n 1, 1) := dk_27 rfl
theorem dX11_well_71 : decode cX11_well 71 = .ok (.invokestatic 408, 3) := dk_184 rfl rfl rfl rfl
theorem dX11_well_74 : decode cX11_well 74 = .ok (.lreturn, 1) := dk_173 rfl
set_option maxHeartbeats 4000000 in
set_option maxRecDepth 100000 in
theorem m_well (l : Launch) (g : Gx) (h0 : Nat) (p0 : Int32) (m_thrown : Int32) (a_tape : Nat) (m_taped : Int32) (m_size : Int32) (m_at : Int32) (m_end : Int32) (m_token : Int32) (m_whole : Int32) (m_nameSize : Int32) (m_fault : Int32) (m_place : Int32) (m_trouble : Int32) (a_letters : Nat) (m_failed : Int32) (m_hasHouse : Int32) (a_r : Nat) (a_fresh : Nat) (a_st : Nat) (a_undone : Nat) (a_kept : Nat) (m_undos : Int32) (m_images : Int32) (a_from : Nat) (a_begin : Nat) (a_motor : Nat) (a_change : Nat) (a_startFrame : Nat) (a_changeFrame : Nat) (a_lostAt : Nat) (a_blackAt : Nat) (a_slips : Nat) (a_leftArc : Nat) (a_died : Nat) (a_arcs : Nat) (m_bestSum : Int32) (m_nearest : Int32) (m_nearestTown : Int32) (a_there : Nat) (a_backAt : Nat) (a_sorted : Nat) (a_parts : Nat) (m_seed1 : Int32) (m_darkNow : Int32) (d_r : Nat → Int32) (hv_m_hasHouse : IV m_hasHouse 0 1) (hp_d_r : RInv d_r) : cL l g yX11_well cX11_well 2 (some .long) 1 30 0 0 [.ref h0, .int p0] [(cO11_i1r1i10r1i2r5i2r12i3r4i2 h0 m_thrown a_tape m_taped m_size m_at m_end m_token m_whole m_nameSize m_fault m_place m_trouble a_letters m_failed m_hasHouse a_r a_fresh a_st a_undone a_kept m_undos m_images a_from a_begin a_motor a_change a_startFrame a_changeFrame a_lostAt a_blackAt a_slips a_leftArc a_died a_arcs m_bestSum m_nearest m_nearestTown a_there a_backAt a_sorted a_parts m_seed1 m_darkNow), (cAI g a_r 311 d_r)] (fun r w => ∃ (m_thrown2 : Int32) (m_trouble2 : Int32), w = [(cO11_i1r1i10r1i2r5i2r12i3r4i2 h0 m_thrown2 a_tape m_taped m_size m_at m_end m_token m_whole m_nameSize m_fault m_place m_trouble2 a_letters m_failed m_hasHouse a_r a_fresh a_st a_undone a_kept m_undos m_images a_from a_begin a_motor a_change a_startFrame a_changeFrame a_lostAt a_blackAt a_slips a_leftArc a_died a_arcs m_bestSum m_nearest m_nearestTown a_there a_backAt a_sorted a_parts m_seed1 m_darkNow), (cAI g a_r 311 d_r)]) := by
  refine cL.of (by decide) (Nat.le_of_ble_eq_true rfl) ?_
  intro p e s m args below meth c A X hr hi
  refine k_lveq [(0, .ref h0), (1, .int p0)] rfl ?_
  refine k_aload_n X dX11_well_0 0 rfl ?_
  refine k_callVV (n := 0) (As := []) (st := []) X [(cO11_i1r1i10r1i2r5i2r12i3r4i2 h0 m_thrown a_tape m_taped m_size m_at m_end m_token m_whole m_nameSize m_fault m_place m_trouble a_letters m_failed m_hasHouse a_r a_fresh a_st a_undone a_kept m_undos m_images a_from a_begin a_motor a_change a_startFrame a_changeFrame a_lostAt a_blackAt a_slips a_leftArc a_died a_arcs m_bestSum m_nearest m_nearestTown a_there a_backAt a_sorted a_parts m_seed1 m_darkNow)] [(cAI g a_r 311 d_r)] [0] [1] (m_good l g h0 m_thrown a_tape m_taped m_size m_at m_end m_token m_whole m_nameSize m_fault m_place m_trouble a_letters m_failed m_hasHouse a_r a_fresh a_st a_undone a_kept m_undos m_images a_from a_begin a_motor a_change a_startFrame a_changeFrame a_lostAt a_blackAt a_slips a_leftArc a_died a_arcs m_bestSum m_nearest m_nearestTown a_there a_backAt a_sorted a_parts m_seed1 m_darkNow) dX11_well_1 mw477 mw478 mw479 mw5 mw480 rfl 11 rfl rfl 0 _ rfl yk_yX11_good_0 rfl (Nat.le_of_ble_eq_true rfl) (Nat.le_of_ble_eq_true rfl) (Nat.le_of_ble_eq_true rfl) (Nat.le_of_ble_eq_true rfl) (Nat.le_of_ble_eq_true rfl) rfl rfl (by decide) rfl (by decide) (by decide) ?_
  rintro w ⟨m_thrown2_1, m_trouble2_2, rfl⟩
  refine k_ws [(cAI g a_r 311 d_r), (cO11_i1r1i10r1i2r5i2r12i3r4i2 h0 m_thrown2_1 a_tape m_taped m_size m_at m_end m_token m_whole m_nameSize m_fault m_place m_trouble2_2 a_letters m_failed m_hasHouse a_r a_fresh a_st a_undone a_kept m_undos m_images a_from a_begin a_motor a_change a_startFrame a_changeFrame a_lostAt a_blackAt a_slips a_leftArc a_died a_arcs m_bestSum m_nearest m_nearestTown a_there a_backAt a_sorted a_parts m_seed1 m_darkNow)] rfl ?_
  refine k_aload_n X dX11_well_4 0 rfl ?_
  refine k_get (ci := 11) X inlX11 rfl 14 (by decide) dX11_well_5 mw474 1 rfl rfl ?_
  refine k_if_ne 18 X dX11_well_8 (by decide) (fun h_4 => ?_) (fun h_4 => ?_)
  · skip
    have iv_5 : IV m_hasHouse 1 1 := iv_neL h_4 hv_m_hasHouse (show IV 0 0 0 from (by decide)) (by decide)
    refine k_aload_n X dX11_well_18 0 rfl ?_
    refine k_get (ci := 11) X inlX11 rfl 15 (by decide) dX11_well_19 mw170 1 rfl rfl ?_
    refine k_sipush (v := 134) X dX11_well_22 (by decide) ?_
    refine k_iald X dX11_well_25 0 rfl (by unfold vp_in; decide) ?_
    refine k_nm (fun z_6 ez_6 => ?_)
    have i_7 : z_6.toInt = (d_r 134).toInt := by rw [ez_6]; rfl
    have iv_8 : IV z_6 0 4 := rb_134 ez_6 hp_d_r
    refine k_if_ne 37 X dX11_well_26 (by decide) (fun h_9 => ?_) (fun h_9 => ?_)
    · skip
      have iv_10 : IV z_6 1 4 := iv_neL h_9 iv_8 (show IV 0 0 0 from (by decide)) (by decide)
      refine k_bipush (v := 100) X dX11_well_37 (by decide) ?_
      refine k_aload_n X dX11_well_39 0 rfl ?_
      refine k_get (ci := 11) X inlX11 rfl 15 (by decide) dX11_well_40 mw170 1 rfl rfl ?_
      refine k_sipush (v := 136) X dX11_well_43 (by decide) ?_
      refine k_iald X dX11_well_46 0 rfl (by unfold vp_in; decide) ?_
      refine k_nm (fun z_11 ez_11 => ?_)
      refine k_isub X dX11_well_47 ?_
      refine k_nm (fun z_12 ez_12 => ?_)
      refine k_aload_n X dX11_well_48 0 rfl ?_
      refine k_get (ci := 11) X inlX11 rfl 15 (by decide) dX11_well_49 mw170 1 rfl rfl ?_
      refine k_bipush (v := 12) X dX11_well_52 (by decide) ?_
      refine k_iald X dX11_well_54 0 rfl (by unfold vp_in; decide) ?_
      refine k_nm (fun z_14 ez_14 => ?_)
      have i_15 : z_14.toInt = (d_r 12).toInt := by rw [ez_14]; rfl
      have iv_16 : IV z_14 0 8 := rb_12 ez_14 hp_d_r
      refine k_callSL (n := 2) (As := [.int z_12, .int z_14]) (st := []) X [] [(cAI g a_r 311 d_r), (cO11_i1r1i10r1i2r5i2r12i3r4i2 h0 m_thrown2_1 a_tape m_taped m_size m_at m_end m_token m_whole m_nameSize m_fault m_place m_trouble2_2 a_letters m_failed m_hasHouse a_r a_fresh a_st a_undone a_kept m_undos m_images a_from a_begin a_motor a_change a_startFrame a_changeFrame a_lostAt a_blackAt a_slips a_leftArc a_died a_arcs m_bestSum m_nearest m_nearestTown a_there a_backAt a_sorted a_parts m_seed1 m_darkNow)] [] [0, 1] (m_power l g z_12 z_14) dX11_well_55 mw1256 mw1257 mw5 mw1258 yk_yX11_power_2 rfl (Nat.le_of_ble_eq_true rfl) (Nat.le_of_ble_eq_true rfl) (Nat.le_of_ble_eq_true rfl) (Nat.le_of_ble_eq_true rfl) (Nat.le_of_ble_eq_true rfl) rfl rfl (by decide) rfl (by decide) (by decide) ?_
      rintro r_17 w rfl
      refine k_ws [(cAI g a_r 311 d_r), (cO11_i1r1i10r1i2r5i2r12i3r4i2 h0 m_thrown2_1 a_tape m_taped m_size m_at m_end m_token m_whole m_nameSize m_fault m_place m_trouble2_2 a_letters m_failed m_hasHouse a_r a_fresh a_st a_undone a_kept m_undos m_images a_from a_begin a_motor a_change a_startFrame a_changeFrame a_lostAt a_blackAt a_slips a_leftArc a_died a_arcs m_bestSum m_nearest m_nearestTown a_there a_backAt a_sorted a_parts m_seed1 m_darkNow)] rfl ?_
      refine k_bipush (v := 100) X dX11_well_58 (by decide) ?_
      refine k_aload_n X dX11_well_60 0 rfl ?_
      refine k_get (ci := 11) X inlX11 rfl 15 (by decide) dX11_well_61 mw170 1 rfl rfl ?_
      refine k_bipush (v := 12) X dX11_well_64 (by decide) ?_
      refine k_iald X dX11_well_66 0 rfl (by unfold vp_in; decide) ?_
      refine k_to z_14 ez_14.symm ?_
      refine k_callSL (n := 2) (As := [.int 100, .int z_14]) (st := [.long r_17]) X [] [(cAI g a_r 311 d_r), (cO11_i1r1i10r1i2r5i2r12i3r4i2 h0 m_thrown2_1 a_tape m_taped m_size m_at m_end m_token m_whole m_nameSize m_fault m_place m_trouble2_2 a_letters m_failed m_hasHouse a_r a_fresh a_st a_undone a_kept m_undos m_images a_from a_begin a_motor a_change a_startFrame a_changeFrame a_lostAt a_blackAt a_slips a_leftArc a_died a_arcs m_bestSum m_nearest m_nearestTown a_there a_backAt a_sorted a_parts m_seed1 m_darkNow)] [] [0, 1] (m_powerH l g z_14 (iv_w iv_16 (by decide) (by decide))) dX11_well_67 mw1256 mw1257 mw5 mw1258 yk_yX11_power_2 rfl (Nat.le_of_ble_eq_true rfl) (Nat.le_of_ble_eq_true rfl) (Nat.le_of_ble_eq_true rfl) (Nat.le_of_ble_eq_true rfl) (Nat.le_of_ble_eq_true rfl) rfl rfl (by decide) rfl (by decide) (by decide) ?_
      rintro r_18 w ⟨hq_19, rfl⟩
      refine k_ws [(cAI g a_r 311 d_r), (cO11_i1r1i10r1i2r5i2r12i3r4i2 h0 m_thrown2_1 a_tape m_taped m_size m_at m_end m_token m_whole m_nameSize m_fault m_place m_trouble2_2 a_letters m_failed m_hasHouse a_r a_fresh a_st a_undone a_kept m_undos m_images a_from a_begin a_motor a_change a_startFrame a_changeFrame a_lostAt a_blackAt a_slips a_leftArc a_died a_arcs m_bestSum m_nearest m_nearestTown a_there a_backAt a_sorted a_parts m_seed1 m_darkNow)] rfl ?_
      refine k_iload_n X dX11_well_70 1 rfl ?_
      refine k_callSL (n := 3) (As := [.long r_17, .long r_18, .int p0]) (st := []) X [] [(cAI g a_r 311 d_r), (cO11_i1r1i10r1i2r5i2r12i3r4i2 h0 m_thrown2_1 a_tape m_taped m_size m_at m_end m_token m_whole m_nameSize m_fault m_place m_trouble2_2 a_letters m_failed m_hasHouse a_r a_fresh a_st a_undone a_kept m_undos m_images a_from a_begin a_motor a_change a_startFrame a_changeFrame a_lostAt a_blackAt a_slips a_leftArc a_died a_arcs m_bestSum m_nearest m_nearestTown a_there a_backAt a_sorted a_parts m_seed1 m_darkNow)] [] [0, 1] (m_lowest l g r_17 r_18 p0 (by first | exact Or.inr (by decide) | exact Or.inr (by assumption) | exact Or.inl (by assumption))) dX11_well_71 mw1167 mw1168 mw5 mw1169 yk_yX11_lowest_3 rfl (Nat.le_of_ble_eq_true rfl) (Nat.le_of_ble_eq_true rfl) (Nat.le_of_ble_eq_true rfl) (Nat.le_of_ble_eq_true rfl) (Nat.le_of_ble_eq_true rfl) rfl rfl (by decide) rfl (by decide) (by decide) ?_
      rintro r_20 w rfl
      refine k_ws [(cAI g a_r 311 d_r), (cO11_i1r1i10r1i2r5i2r12i3r4i2 h0 m_thrown2_1 a_tape m_taped m_size m_at m_end m_token m_whole m_nameSize m_fault m_place m_trouble2_2 a_letters m_failed m_hasHouse a_r a_fresh a_st a_undone a_kept m_undos m_images a_from a_begin a_motor a_change a_startFrame a_changeFrame a_lostAt a_blackAt a_slips a_leftArc a_died a_arcs m_bestSum m_nearest m_nearestTown a_there a_backAt a_sorted a_parts m_seed1 m_darkNow)] rfl ?_
      exact k_lret X hr dX11_well_74 (Nat.le_of_ble_eq_true rfl) (Nat.le_of_ble_eq_true rfl) [1, 0] (by decide) rfl rfl ⟨m_thrown2_1, m_trouble2_2, rfl⟩
    · skip
      have iv_21 : IV z_6 0 0 := iv_meet iv_8 (iv_e h_9 (show IV 0 0 0 from (by decide))) (by decide) (by decide)
      refine k_aload_n X dX11_well_29 0 rfl ?_
      refine k_bipush (v := 6) X dX11_well_30 (by decide) ?_
      refine k_callVI (n := 1) (As := [.int 6]) (st := []) X [(cO11_i1r1i10r1i2r5i2r12i3r4i2 h0 m_thrown2_1 a_tape m_taped m_size m_at m_end m_token m_whole m_nameSize m_fault m_place m_trouble2_2 a_letters m_failed m_hasHouse a_r a_fresh a_st a_undone a_kept m_undos m_images a_from a_begin a_motor a_change a_startFrame a_changeFrame a_lostAt a_blackAt a_slips a_leftArc a_died a_arcs m_bestSum m_nearest m_nearestTown a_there a_backAt a_sorted a_parts m_seed1 m_darkNow)] [(cAI g a_r 311 d_r)] [1] [0] (m_no l g h0 6 m_thrown2_1 a_tape m_taped m_size m_at m_end m_token m_whole m_nameSize m_fault m_place m_trouble2_2 a_letters m_failed m_hasHouse a_r a_fresh a_st a_undone a_kept m_undos m_images a_from a_begin a_motor a_change a_startFrame a_changeFrame a_lostAt a_blackAt a_slips a_leftArc a_died a_arcs m_bestSum m_nearest m_nearestTown a_there a_backAt a_sorted a_parts m_seed1 m_darkNow) dX11_well_32 mw485 mw486 mw487 mw5 mw488 rfl 11 rfl rfl 0 _ rfl yk_yX11_no_1 rfl (Nat.le_of_ble_eq_true rfl) (Nat.le_of_ble_eq_true rfl) (Nat.le_of_ble_eq_true rfl) (Nat.le_of_ble_eq_true rfl) (Nat.le_of_ble_eq_true rfl) rfl rfl (by decide) rfl (by decide) (by decide) ?_
      rintro r_23 w ⟨m_trouble2_22, iv_24, rfl⟩
      refine k_ws [(cAI g a_r 311 d_r), (cO11_i1r1i10r1i2r5i2r12i3r4i2 h0 m_thrown2_1 a_tape m_taped m_size m_at m_end m_token m_whole m_nameSize m_fault m_place m_trouble2_22 a_letters m_failed m_hasHouse a_r a_fresh a_st a_undone a_kept m_undos m_images a_from a_begin a_motor a_change a_startFrame a_changeFrame a_lostAt a_blackAt a_slips a_leftArc a_died a_arcs m_bestSum m_nearest m_nearestTown a_there a_backAt a_sorted a_parts m_seed1 m_darkNow)] rfl ?_
      refine k_i2l X dX11_well_35 ?_
      refine k_nmL (fun y_25 ey_25 => ?_)
      exact k_lret X hr dX11_well_36 (Nat.le_of_ble_eq_true rfl) (Nat.le_of_ble_eq_true rfl) [1, 0] (by decide) rfl rfl ⟨m_thrown2_1, m_trouble2_22, rfl⟩
  · skip
    have iv_26 : IV m_hasHouse 0 0 := iv_meet hv_m_hasHouse (iv_e h_4 (show IV 0 0 0 from (by decide))) (by decide) (by decide)
    refine k_aload_n X dX11_well_11 0 rfl ?_
    refine k_iconst (v := 1) X dX11_well_12 (by decide) ?_
    refine k_callVI (n := 1) (As := [.int 1]) (st := []) X [(cO11_i1r1i10r1i2r5i2r12i3r4i2 h0 m_thrown2_1 a_tape m_taped m_size m_at m_end m_token m_whole m_nameSize m_fault m_place m_trouble2_2 a_letters m_failed m_hasHouse a_r a_fresh a_st a_undone a_kept m_undos m_images a_from a_begin a_motor a_change a_startFrame a_changeFrame a_lostAt a_blackAt a_slips a_leftArc a_died a_arcs m_bestSum m_nearest m_nearestTown a_there a_backAt a_sorted a_parts m_seed1 m_darkNow)] [(cAI g a_r 311 d_r)] [1] [0] (m_no l g h0 1 m_thrown2_1 a_tape m_taped m_size m_at m_end m_token m_whole m_nameSize m_fault m_place m_trouble2_2 a_letters m_failed m_hasHouse a_r a_fresh a_st a_undone a_kept m_undos m_images a_from a_begin a_motor a_change a_startFrame a_changeFrame a_lostAt a_blackAt a_slips a_leftArc a_died a_arcs m_bestSum m_nearest m_nearestTown a_there a_backAt a_sorted a_parts m_seed1 m_darkNow) dX11_well_13 mw485 mw486 mw487 mw5 mw488 rfl 11 rfl rfl 0 _ rfl yk_yX11_no_1 rfl (Nat.le_of_ble_eq_true rfl) (Nat.le_of_ble_eq_true rfl) (Nat.le_of_ble_eq_true rfl) (Nat.le_of_ble_eq_true rfl) (Nat.le_of_ble_eq_true rfl) rfl rfl (by decide) rfl (by decide) (by decide) ?_
    rintro r_28 w ⟨m_trouble2_27, iv_29, rfl⟩
    refine k_ws [(cAI g a_r 311 d_r), (cO11_i1r1i10r1i2r5i2r12i3r4i2 h0 m_thrown2_1 a_tape m_taped m_size m_at m_end m_token m_whole m_nameSize m_fault m_place m_trouble2_27 a_letters m_failed m_hasHouse a_r a_fresh a_st a_undone a_kept m_undos m_images a_from a_begin a_motor a_change a_startFrame a_changeFrame a_lostAt a_blackAt a_slips a_leftArc a_died a_arcs m_bestSum m_nearest m_nearestTown a_there a_backAt a_sorted a_parts m_seed1 m_darkNow)] rfl ?_
    refine k_i2l X dX11_well_16 ?_
    refine k_nmL (fun y_30 ey_30 => ?_)
    exact k_lret X hr dX11_well_17 (Nat.le_of_ble_eq_true rfl) (Nat.le_of_ble_eq_true rfl) [1, 0] (by decide) rfl rfl ⟨m_thrown2_1, m_trouble2_27, rfl⟩

theorem dX11_wrong_0 : decode cX11_wrong 0 = .ok (.aload_n 0, 1) := dk_42 rfl
theorem dX11_wrong_1 : decode cX11_wrong 1 = .ok (.invokevirtual 200, 3) := dk_182 rfl rfl rfl rfl
theorem dX11_wrong_4 : decode cX11_wrong 4 = .ok (.aload_n 0, 1) := dk_42 rfl
theorem dX11_wrong_5 : decode cX11_wrong 5 = .ok (.getfield 213, 3) := dk_180 rfl rfl rfl rfl
theorem dX11_wrong_8 : decode cX11_wrong 8 = .ok (.ifCond .ne 9, 3) := dk_154 rfl rfl rfl (by decide)
theorem dX11_wrong_11 : decode cX11_wrong 11 = .ok (.aload_n 0, 1) := dk_42 rfl
theorem dX11_wrong_12 : decode cX11_wrong 12 = .ok (.iconst 1, 1) := dk_4 rfl
theorem dX11_wrong_13 : decode cX11_wrong 13 = .ok (.invokevirtual 203, 3) := dk_182 rfl rfl rfl rfl
theorem dX11_wrong_16 : decode cX11_wrong 16 = .ok (.ireturn, 1) := dk_172 rfl
theorem dX11_wrong_17 : decode cX11_wrong 17 = .ok (.iconst 0, 1) := dk_3 rfl
theorem dX11_wrong_18 : decode cX11_wrong 18 = .ok (.istore_n 1, 1) := dk_60 rfl
theorem dX11_wrong_19 : decode cX11_wrong 19 = .ok (.iconst 0, 1) := dk_3 rfl
theorem dX11_wrong_20 : decode cX11_wrong 20 = .ok (.istore_n 2, 1) := dk_61 rfl
theorem dX11_wrong_21 : decode cX11_wrong 21 = .ok (.iload_n 2, 1) := dk_28 rfl
theorem dX11_wrong_22 : decode cX11_wrong 22 = .ok (.aload_n 0, 1) := dk_42 rfl
theorem dX11_wrong_23 : decode cX11_wrong 23 = .ok (.getfield 20, 3) := dk_180 rfl rfl rfl rfl
theorem dX11_wrong_26 : decode cX11_wrong 26 = .ok (.bipush 12, 2) := dk_16 rfl rfl (by decide)
theorem dX11_wrong_28 : decode cX11_wrong 28 = .ok (.iaload, 1) := dk_46 rfl
theorem dX11_wrong_29 : decode cX11_wrong 29 = .ok (.if_icmp .ge 45, 3) := dk_162 rfl rfl rfl (by decide)
theorem dX11_wrong_32 : decode cX11_wrong 32 = .ok (.iconst 0, 1) := dk_3 rfl
theorem dX11_wrong_33 : decode cX11_wrong 33 = .ok (.istore_n 3, 1) := dk_62 rfl
theorem dX11_wrong_34 : decode cX11_wrong 34 = .ok (.iload_n 3, 1) := dk_29 rfl
theorem dX11_wrong_35 : decode cX11_wrong 35 = .ok (.iload_n 2, 1) := dk_28 rfl
theorem dX11_wrong_36 : decode cX11_wrong 36 = .ok (.if_icmp .ge 32, 3) := dk_162 rfl rfl rfl (by decide)
theorem dX11_wrong_39 : decode cX11_wrong 39 = .ok (.iload_n 1, 1) := dk_27 rfl
theorem dX11_wrong_40 : decode cX11_wrong 40 = .ok (.aload_n 0, 1) := dk_42 rfl
theorem dX11_wrong_41 : decode cX11_wrong 41 = .ok (.iload_n 3, 1) := dk_29 rfl
theorem dX11_wrong_42 : decode cX11_wrong 42 = .ok (.invokevirtual 324, 3) := dk_182 rfl rfl rfl rfl
theorem dX11_wrong_45 : decode cX11_wrong 45 = .ok (.aload_n 0, 1) := dk_42 rfl
theorem dX11_wrong_46 : decode cX11_wrong 46 = .ok (.iload_n 2, 1) := dk_28 rfl
theorem dX11_wrong_47 : decode cX11_wrong 47 = .ok (.invokevirtual 324, 3) := dk_182 rfl rfl rfl rfl
theorem dX11_wrong_50 : decode cX11_wrong 50 = .ok (.if_icmp .lt 9, 3) := dk_161 rfl rfl rfl (by decide)
theorem dX11_wrong_53 : decode cX11_wrong 53 = .ok (.iconst 1, 1) := dk_4 rfl
theorem dX11_wrong_54 : decode cX11_wrong 54 = .ok (.iload_n 2, 1) := dk_28 rfl
theorem dX11_wrong_55 : decode cX11_wrong 55 = .ok (.ishl, 1) := dk_120 rfl
theorem dX11_wrong_56 : decode cX11_wrong 56 = .ok (.goto 4, 3) := dk_167 rfl rfl rfl (by decide)
theorem dX11_wrong_59 : decode cX11_wrong 59 = .ok (.iconst 0, 1) := dk_3 rfl
theorem dX11_wrong_60 : decode cX11_wrong 60 = .ok (.ior, 1) := dk_128 rfl
theorem dX11_wrong_61 : decode cX11_wrong 61 = .ok (.istore_n 1, 1) := dk_60 rfl
theorem dX11_wrong_62 : decode cX11_wrong 62 = .ok (.iinc 3 1, 3) := dk_132 rfl rfl rfl rfl (by decide)
theorem dX11_wrong_65 : decode cX11_wrong 65 = .ok (.goto (-31), 3) := dk_167 rfl rfl rfl (by decide)
theorem dX11_wrong_68 : decode cX11_wrong 68 = .ok (.iinc 2 1, 3) := dk_132 rfl rfl rfl rfl (by decide)
theorem dX11_wrong_71 : decode cX11_wrong 71 = .ok (.goto (-50), 3) := dk_167 rfl rfl rfl (by decide)
theorem dX11_wrong_74 : decode cX11_wrong 74 = .ok (.iload_n 1, 1) := dk_27 rfl
theorem dX11_wrong_75 : decode cX11_wrong 75 = .ok (.ireturn, 1) := dk_172 rfl
set_option maxHeartbeats 4000000 in
set_option maxRecDepth 100000 in
theorem m_wrong (l : Launch) (g : Gx) (h0 : Nat) (m_thrown : Int32) (a_tape : Nat) (m_taped : Int32) (m_size : Int32) (m_at : Int32) (m_end : Int32) (m_token : Int32) (m_whole : Int32) (m_nameSize : Int32) (m_fault : Int32) (m_place : Int32) (m_trouble : Int32) (a_letters : Nat) (m_failed : Int32) (m_hasHouse : Int32) (a_r : Nat) (a_fresh : Nat) (a_st : Nat) (a_undone : Nat) (a_kept : Nat) (m_undos : Int32) (m_images : Int32) (a_from : Nat) (a_begin : Nat) (a_motor : Nat) (a_change : Nat) (a_startFrame : Nat) (a_changeFrame : Nat) (a_lostAt : Nat) (a_blackAt : Nat) (a_slips : Nat) (a_leftArc : Nat) (a_died : Nat) (a_arcs : Nat) (m_bestSum : Int32) (m_nearest : Int32) (m_nearestTown : Int32) (a_there : Nat) (a_backAt : Nat) (a_sorted : Nat) (a_parts : Nat) (m_seed1 : Int32) (m_darkNow : Int32) (d_r : Nat → Int32) (hv_m_hasHouse : IV m_hasHouse 0 1) (hp_d_r : RInv d_r) : cI l g yX11_wrong cX11_wrong 4 (some .int) 1 21 0 0 [.ref h0] [(cO11_i1r1i10r1i2r5i2r12i3r4i2 h0 m_thrown a_tape m_taped m_size m_at m_end m_token m_whole m_nameSize m_fault m_place m_trouble a_letters m_failed m_hasHouse a_r a_fresh a_st a_undone a_kept m_undos m_images a_from a_begin a_motor a_change a_startFrame a_changeFrame a_lostAt a_blackAt a_slips a_leftArc a_died a_arcs m_bestSum m_nearest m_nearestTown a_there a_backAt a_sorted a_parts m_seed1 m_darkNow), (cAI g a_r 311 d_r)] (fun r w => ∃ (m_thrown2 : Int32) (m_trouble2 : Int32), w = [(cO11_i1r1i10r1i2r5i2r12i3r4i2 h0 m_thrown2 a_tape m_taped m_size m_at m_end m_token m_whole m_nameSize m_fault m_place m_trouble2 a_letters m_failed m_hasHouse a_r a_fresh a_st a_undone a_kept m_undos m_images a_from a_begin a_motor a_change a_startFrame a_changeFrame a_lostAt a_blackAt a_slips a_leftArc a_died a_arcs m_bestSum m_nearest m_nearestTown a_there a_backAt a_sorted a_parts m_seed1 m_darkNow), (cAI g a_r 311 d_r)]) := by
  refine cI.of (by decide) (Nat.le_of_ble_eq_true rfl) ?_
  intro p e s m args below meth c A X hr hi
  refine k_lveq [(0, .ref h0)] rfl ?_
  refine k_aload_n X dX11_wrong_0 0 rfl ?_
  refine k_callVV (n := 0) (As := []) (st := []) X [(cO11_i1r1i10r1i2r5i2r12i3r4i2 h0 m_thrown a_tape m_taped m_size m_at m_end m_token m_whole m_nameSize m_fault m_place m_trouble a_letters m_failed m_hasHouse a_r a_fresh a_st a_undone a_kept m_undos m_images a_from a_begin a_motor a_change a_startFrame a_changeFrame a_lostAt a_blackAt a_slips a_leftArc a_died a_arcs m_bestSum m_nearest m_nearestTown a_there a_backAt a_sorted a_parts m_seed1 m_darkNow)] [(cAI g a_r 311 d_r)] [0] [1] (m_good l g h0 m_thrown a_tape m_taped m_size m_at m_end m_token m_whole m_nameSize m_fault m_place m_trouble a_letters m_failed m_hasHouse a_r a_fresh a_st a_undone a_kept m_undos m_images a_from a_begin a_motor a_change a_startFrame a_changeFrame a_lostAt a_blackAt a_slips a_leftArc a_died a_arcs m_bestSum m_nearest m_nearestTown a_there a_backAt a_sorted a_parts m_seed1 m_darkNow) dX11_wrong_1 mw477 mw478 mw479 mw5 mw480 rfl 11 rfl rfl 0 _ rfl yk_yX11_good_0 rfl (Nat.le_of_ble_eq_true rfl) (Nat.le_of_ble_eq_true rfl) (Nat.le_of_ble_eq_true rfl) (Nat.le_of_ble_eq_true rfl) (Nat.le_of_ble_eq_true rfl) rfl rfl (by decide) rfl (by decide) (by decide) ?_
  rintro w ⟨m_thrown2_1, m_trouble2_2, rfl⟩
  refine k_ws [(cAI g a_r 311 d_r), (cO11_i1r1i10r1i2r5i2r12i3r4i2 h0 m_thrown2_1 a_tape m_taped m_size m_at m_end m_token m_whole m_nameSize m_fault m_place m_trouble2_2 a_letters m_failed m_hasHouse a_r a_fresh a_st a_undone a_kept m_undos m_images a_from a_begin a_motor a_change a_startFrame a_changeFrame a_lostAt a_blackAt a_slips a_leftArc a_died a_arcs m_bestSum m_nearest m_nearestTown a_there a_backAt a_sorted a_parts m_seed1 m_darkNow)] rfl ?_
  refine k_aload_n X dX11_wrong_4 0 rfl ?_
  refine k_get (ci := 11) X inlX11 rfl 14 (by decide) dX11_wrong_5 mw474 1 rfl rfl ?_
  refine k_if_ne 17 X dX11_wrong_8 (by decide) (fun h_4 => ?_) (fun h_4 => ?_)
  · skip
    have iv_5 : IV m_hasHouse 1 1 := iv_neL h_4 hv_m_hasHouse (show IV 0 0 0 from (by decide)) (by decide)
    refine k_iconst (v := 0) X dX11_wrong_17 (by decide) ?_
    refine k_istore_n [(1, .int 0), (0, .ref h0)] X dX11_wrong_18 (by decide) rfl ?_
    refine k_iconst (v := 0) X dX11_wrong_19 (by decide) ?_
    refine k_istore_n [(2, .int 0), (1, .int 0), (0, .ref h0)] X dX11_wrong_20 (by decide) rfl ?_
    refine (fun hL : ∀ (nn_9 : Nat) (u_6 : Int32) (u_7 : Int32), (2147483647 - u_7.toInt).toNat = nn_9 → (IV u_7 0 8) → Wk p l e _ s m args below meth c _ A g _ _ _ [(cAI g a_r 311 d_r), (cO11_i1r1i10r1i2r5i2r12i3r4i2 h0 m_thrown2_1 a_tape m_taped m_size m_at m_end m_token m_whole m_nameSize m_fault m_place m_trouble2_2 a_letters m_failed m_hasHouse a_r a_fresh a_st a_undone a_kept m_undos m_images a_from a_begin a_motor a_change a_startFrame a_changeFrame a_lostAt a_blackAt a_slips a_leftArc a_died a_arcs m_bestSum m_nearest m_nearestTown a_there a_backAt a_sorted a_parts m_seed1 m_darkNow)] [(2, .int u_7), (1, .int u_6), (0, .ref h0)] 21 [] => hL _ 0 0 rfl (iv_w (show IV 0 0 0 from (by decide)) (by decide) (by decide))) ?_
    refine fun nn_9 => Nat.strongRecOn nn_9 (fun nn_9 ih_11 => ?_)
    intro u_6 u_7 hm_10 hv_8
    refine k_iload_n X dX11_wrong_21 0 rfl ?_
    refine k_aload_n X dX11_wrong_22 2 rfl ?_
    refine k_get (ci := 11) X inlX11 rfl 15 (by decide) dX11_wrong_23 mw170 1 rfl rfl ?_
    refine k_bipush (v := 12) X dX11_wrong_26 (by decide) ?_
    refine k_iald X dX11_wrong_28 0 rfl (by unfold vp_in; decide) ?_
    refine k_nm (fun z_12 ez_12 => ?_)
    have i_13 : z_12.toInt = (d_r 12).toInt := by rw [ez_12]; rfl
    have iv_14 : IV z_12 0 8 := rb_12 ez_12 hp_d_r
    refine k_ic_ge 74 X dX11_wrong_29 (by decide) (fun h_15 => ?_) (fun h_15 => ?_)
    · skip
      have j_16 : z_12.toInt ≤ u_7.toInt := iv_le h_15
      refine k_iload_n X dX11_wrong_74 1 rfl ?_
      exact k_iret X hr dX11_wrong_75 (Nat.le_of_ble_eq_true rfl) (Nat.le_of_ble_eq_true rfl) [1, 0] (by decide) rfl rfl ⟨m_thrown2_1, m_trouble2_2, rfl⟩
    · skip
      have j_17 : u_7.toInt < z_12.toInt := iv_nle h_15
      have iv_18 : IV u_7 0 7 := iv_ltL (iv_nle h_15) hv_8 iv_14 (by decide)
      have iv_19 : IV z_12 1 8 := iv_ltR (iv_nle h_15) hv_8 iv_14 (by decide)
      refine k_iconst (v := 0) X dX11_wrong_32 (by decide) ?_
      refine k_istore_n [(3, .int 0), (2, .int u_7), (1, .int u_6), (0, .ref h0)] X dX11_wrong_33 (by decide) rfl ?_
      refine (fun hL : ∀ (nn_23 : Nat) (u_20 : Int32) (u_21 : Int32), (u_7.toInt - u_21.toInt).toNat = nn_23 → (IV u_21 0 8) → Wk p l e _ s m args below meth c _ A g _ _ _ [(cAI g a_r 311 d_r), (cO11_i1r1i10r1i2r5i2r12i3r4i2 h0 m_thrown2_1 a_tape m_taped m_size m_at m_end m_token m_whole m_nameSize m_fault m_place m_trouble2_2 a_letters m_failed m_hasHouse a_r a_fresh a_st a_undone a_kept m_undos m_images a_from a_begin a_motor a_change a_startFrame a_changeFrame a_lostAt a_blackAt a_slips a_leftArc a_died a_arcs m_bestSum m_nearest m_nearestTown a_there a_backAt a_sorted a_parts m_seed1 m_darkNow)] [(3, .int u_21), (2, .int u_7), (1, .int u_20), (0, .ref h0)] 34 [] => hL _ u_6 0 rfl (iv_w (show IV 0 0 0 from (by decide)) (by decide) (by decide))) ?_
      refine fun nn_23 => Nat.strongRecOn nn_23 (fun nn_23 ih_25 => ?_)
      intro u_20 u_21 hm_24 hv_22
      refine k_iload_n X dX11_wrong_34 0 rfl ?_
      refine k_iload_n X dX11_wrong_35 1 rfl ?_
      refine k_ic_ge 68 X dX11_wrong_36 (by decide) (fun h_26 => ?_) (fun h_26 => ?_)
      · skip
        have j_27 : u_7.toInt ≤ u_21.toInt := iv_le h_26
        obtain ⟨z_28, ez_28⟩ : ∃ y : Int32, u_7 + Int32.ofInt 1 = y := ⟨_, rfl⟩
        refine k_iinc z_28 [(2, .int z_28), (3, .int u_21), (1, .int u_20), (0, .ref h0)] 1 X dX11_wrong_68 rfl ez_28 (by decide) rfl ?_
        have i_29 : z_28.toInt = u_7.toInt + 1 := in_inc ez_28 (by decide) iv_18 (by decide) (by decide)
        have iv_30 : IV z_28 1 8 := iz1 i_29 iv_18 (by decide) (by decide)
        refine k_goto 21 X dX11_wrong_71 (by decide) ?_
        refine k_lv [(2, .int z_28), (1, .int u_20), (0, .ref h0)] [0, 2, 3] rfl ?_
        exact ih_11 _ (by omega) u_20 z_28 rfl (iv_w iv_30 (by decide) (by decide))
      · skip
        have j_31 : u_21.toInt < u_7.toInt := iv_nle h_26
        have iv_32 : IV u_21 0 6 := iv_ltL (iv_nle h_26) hv_22 iv_18 (by decide)
        have iv_33 : IV u_7 1 7 := iv_ltR (iv_nle h_26) hv_22 iv_18 (by decide)
        refine k_iload_n X dX11_wrong_39 2 rfl ?_
        refine k_aload_n X dX11_wrong_40 3 rfl ?_
        refine k_iload_n X dX11_wrong_41 0 rfl ?_
        refine k_callVI (n := 1) (As := [.int u_21]) (st := [.int u_20]) X [(cO11_i1r1i10r1i2r5i2r12i3r4i2 h0 m_thrown2_1 a_tape m_taped m_size m_at m_end m_token m_whole m_nameSize m_fault m_place m_trouble2_2 a_letters m_failed m_hasHouse a_r a_fresh a_st a_undone a_kept m_undos m_images a_from a_begin a_motor a_change a_startFrame a_changeFrame a_lostAt a_blackAt a_slips a_leftArc a_died a_arcs m_bestSum m_nearest m_nearestTown a_there a_backAt a_sorted a_parts m_seed1 m_darkNow), (cAI g a_r 311 d_r)] [] [1, 0] [] (m_reelAt l g h0 u_21 m_thrown2_1 a_tape m_taped m_size m_at m_end m_token m_whole m_nameSize m_fault m_place m_trouble2_2 a_letters m_failed m_hasHouse a_r a_fresh a_st a_undone a_kept m_undos m_images a_from a_begin a_motor a_change a_startFrame a_changeFrame a_lostAt a_blackAt a_slips a_leftArc a_died a_arcs m_bestSum m_nearest m_nearestTown a_there a_backAt a_sorted a_parts m_seed1 m_darkNow d_r (iv_w iv_32 (by decide) (by decide)) hp_d_r) dX11_wrong_42 mw723 mw724 mw725 mw5 mw726 rfl 11 rfl rfl 0 _ rfl yk_yX11_reelAt_1 rfl (Nat.le_of_ble_eq_true rfl) (Nat.le_of_ble_eq_true rfl) (Nat.le_of_ble_eq_true rfl) (Nat.le_of_ble_eq_true rfl) (Nat.le_of_ble_eq_true rfl) rfl rfl (by decide) rfl (by decide) (by decide) ?_
        rintro r_34 w ⟨iv_35, rfl⟩
        refine k_ws [(cO11_i1r1i10r1i2r5i2r12i3r4i2 h0 m_thrown2_1 a_tape m_taped m_size m_at m_end m_token m_whole m_nameSize m_fault m_place m_trouble2_2 a_letters m_failed m_hasHouse a_r a_fresh a_st a_undone a_kept m_undos m_images a_from a_begin a_motor a_change a_startFrame a_changeFrame a_lostAt a_blackAt a_slips a_leftArc a_died a_arcs m_bestSum m_nearest m_nearestTown a_there a_backAt a_sorted a_parts m_seed1 m_darkNow), (cAI g a_r 311 d_r)] rfl ?_
        refine k_aload_n X dX11_wrong_45 3 rfl ?_
        refine k_iload_n X dX11_wrong_46 1 rfl ?_
        refine k_callVI (n := 1) (As := [.int u_7]) (st := [.int r_34, .int u_20]) X [(cO11_i1r1i10r1i2r5i2r12i3r4i2 h0 m_thrown2_1 a_tape m_taped m_size m_at m_end m_token m_whole m_nameSize m_fault m_place m_trouble2_2 a_letters m_failed m_hasHouse a_r a_fresh a_st a_undone a_kept m_undos m_images a_from a_begin a_motor a_change a_startFrame a_changeFrame a_lostAt a_blackAt a_slips a_leftArc a_died a_arcs m_bestSum m_nearest m_nearestTown a_there a_backAt a_sorted a_parts m_seed1 m_darkNow), (cAI g a_r 311 d_r)] [] [0, 1] [] (m_reelAt l g h0 u_7 m_thrown2_1 a_tape m_taped m_size m_at m_end m_token m_whole m_nameSize m_fault m_place m_trouble2_2 a_letters m_failed m_hasHouse a_r a_fresh a_st a_undone a_kept m_undos m_images a_from a_begin a_motor a_change a_startFrame a_changeFrame a_lostAt a_blackAt a_slips a_leftArc a_died a_arcs m_bestSum m_nearest m_nearestTown a_there a_backAt a_sorted a_parts m_seed1 m_darkNow d_r (iv_w iv_33 (by decide) (by decide)) hp_d_r) dX11_wrong_47 mw723 mw724 mw725 mw5 mw726 rfl 11 rfl rfl 0 _ rfl yk_yX11_reelAt_1 rfl (Nat.le_of_ble_eq_true rfl) (Nat.le_of_ble_eq_true rfl) (Nat.le_of_ble_eq_true rfl) (Nat.le_of_ble_eq_true rfl) (Nat.le_of_ble_eq_true rfl) rfl rfl (by decide) rfl (by decide) (by decide) ?_
        rintro r_36 w ⟨iv_37, rfl⟩
        refine k_ws [(cO11_i1r1i10r1i2r5i2r12i3r4i2 h0 m_thrown2_1 a_tape m_taped m_size m_at m_end m_token m_whole m_nameSize m_fault m_place m_trouble2_2 a_letters m_failed m_hasHouse a_r a_fresh a_st a_undone a_kept m_undos m_images a_from a_begin a_motor a_change a_startFrame a_changeFrame a_lostAt a_blackAt a_slips a_leftArc a_died a_arcs m_bestSum m_nearest m_nearestTown a_there a_backAt a_sorted a_parts m_seed1 m_darkNow), (cAI g a_r 311 d_r)] rfl ?_
        refine k_ic_lt 59 X dX11_wrong_50 (by decide) (fun h_38 => ?_) (fun h_38 => ?_)
        · skip
          have j_39 : r_34.toInt < r_36.toInt := iv_lt h_38
          have iv_40 : IV r_34 0 6 := iv_ltL (iv_lt h_38) iv_35 iv_37 (by decide)
          have iv_41 : IV r_36 1 7 := iv_ltR (iv_lt h_38) iv_35 iv_37 (by decide)
          refine k_iconst (v := 0) X dX11_wrong_59 (by decide) ?_
          refine k_ior X dX11_wrong_60 ?_
          refine k_nm (fun z_42 ez_42 => ?_)
          refine k_istore_n [(1, .int z_42), (3, .int u_21), (2, .int u_7), (0, .ref h0)] X dX11_wrong_61 (by decide) rfl ?_
          obtain ⟨z_43, ez_43⟩ : ∃ y : Int32, u_21 + Int32.ofInt 1 = y := ⟨_, rfl⟩
          refine k_iinc z_43 [(3, .int z_43), (1, .int z_42), (2, .int u_7), (0, .ref h0)] 1 X dX11_wrong_62 rfl ez_43 (by decide) rfl ?_
          have i_44 : z_43.toInt = u_21.toInt + 1 := in_inc ez_43 (by decide) iv_32 (by decide) (by decide)
          have iv_45 : IV z_43 1 7 := iz1 i_44 iv_32 (by decide) (by decide)
          refine k_goto 34 X dX11_wrong_65 (by decide) ?_
          refine k_lv [(3, .int z_43), (2, .int u_7), (1, .int z_42), (0, .ref h0)] [0, 2, 1, 3] rfl ?_
          refine k_sub [(cAI g a_r 311 d_r), (cO11_i1r1i10r1i2r5i2r12i3r4i2 h0 m_thrown2_1 a_tape m_taped m_size m_at m_end m_token m_whole m_nameSize m_fault m_place m_trouble2_2 a_letters m_failed m_hasHouse a_r a_fresh a_st a_undone a_kept m_undos m_images a_from a_begin a_motor a_change a_startFrame a_changeFrame a_lostAt a_blackAt a_slips a_leftArc a_died a_arcs m_bestSum m_nearest m_nearestTown a_there a_backAt a_sorted a_parts m_seed1 m_darkNow)] [1, 0] rfl (by decide) rfl ?_
          exact ih_25 _ (by omega) z_42 z_43 rfl (iv_w iv_45 (by decide) (by decide))
        · skip
          have j_46 : r_36.toInt ≤ r_34.toInt := iv_nlt h_38
          refine k_iconst (v := 1) X dX11_wrong_53 (by decide) ?_
          refine k_iload_n X dX11_wrong_54 1 rfl ?_
          refine k_ishl X dX11_wrong_55 ?_
          refine k_nm (fun z_47 ez_47 => ?_)
          have iv_48 : IV z_47 1 256 := iv_shl ez_47 (iv_w iv_33 (by decide) (by decide))
          refine k_goto 60 X dX11_wrong_56 (by decide) ?_
          refine k_ior X dX11_wrong_60 ?_
          refine k_nm (fun z_49 ez_49 => ?_)
          refine k_istore_n [(1, .int z_49), (3, .int u_21), (2, .int u_7), (0, .ref h0)] X dX11_wrong_61 (by decide) rfl ?_
          obtain ⟨z_50, ez_50⟩ : ∃ y : Int32, u_21 + Int32.ofInt 1 = y := ⟨_, rfl⟩
          refine k_iinc z_50 [(3, .int z_50), (1, .int z_49), (2, .int u_7), (0, .ref h0)] 1 X dX11_wrong_62 rfl ez_50 (by decide) rfl ?_
          have i_51 : z_50.toInt = u_21.toInt + 1 := in_inc ez_50 (by decide) iv_32 (by decide) (by decide)
          have iv_52 : IV z_50 1 7 := iz1 i_51 iv_32 (by decide) (by decide)
          refine k_goto 34 X dX11_wrong_65 (by decide) ?_
          refine k_lv [(3, .int z_50), (2, .int u_7), (1, .int z_49), (0, .ref h0)] [0, 2, 1, 3] rfl ?_
          refine k_sub [(cAI g a_r 311 d_r), (cO11_i1r1i10r1i2r5i2r12i3r4i2 h0 m_thrown2_1 a_tape m_taped m_size m_at m_end m_token m_whole m_nameSize m_fault m_place m_trouble2_2 a_letters m_failed m_hasHouse a_r a_fresh a_st a_undone a_kept m_undos m_images a_from a_begin a_motor a_change a_startFrame a_changeFrame a_lostAt a_blackAt a_slips a_leftArc a_died a_arcs m_bestSum m_nearest m_nearestTown a_there a_backAt a_sorted a_parts m_seed1 m_darkNow)] [1, 0] rfl (by decide) rfl ?_
          exact ih_25 _ (by omega) z_49 z_50 rfl (iv_w iv_52 (by decide) (by decide))
  · skip
    have iv_53 : IV m_hasHouse 0 0 := iv_meet hv_m_hasHouse (iv_e h_4 (show IV 0 0 0 from (by decide))) (by decide) (by decide)
    refine k_aload_n X dX11_wrong_11 0 rfl ?_
    refine k_iconst (v := 1) X dX11_wrong_12 (by decide) ?_
    refine k_callVI (n := 1) (As := [.int 1]) (st := []) X [(cO11_i1r1i10r1i2r5i2r12i3r4i2 h0 m_thrown2_1 a_tape m_taped m_size m_at m_end m_token m_whole m_nameSize m_fault m_place m_trouble2_2 a_letters m_failed m_hasHouse a_r a_fresh a_st a_undone a_kept m_undos m_images a_from a_begin a_motor a_change a_startFrame a_changeFrame a_lostAt a_blackAt a_slips a_leftArc a_died a_arcs m_bestSum m_nearest m_nearestTown a_there a_backAt a_sorted a_parts m_seed1 m_darkNow)] [(cAI g a_r 311 d_r)] [1] [0] (m_no l g h0 1 m_thrown2_1 a_tape m_taped m_size m_at m_end m_token m_whole m_nameSize m_fault m_place m_trouble2_2 a_letters m_failed m_hasHouse a_r a_fresh a_st a_undone a_kept m_undos m_images a_from a_begin a_motor a_change a_startFrame a_changeFrame a_lostAt a_blackAt a_slips a_leftArc a_died a_arcs m_bestSum m_nearest m_nearestTown a_there a_backAt a_sorted a_parts m_seed1 m_darkNow) dX11_wrong_13 mw485 mw486 mw487 mw5 mw488 rfl 11 rfl rfl 0 _ rfl yk_yX11_no_1 rfl (Nat.le_of_ble_eq_true rfl) (Nat.le_of_ble_eq_true rfl) (Nat.le_of_ble_eq_true rfl) (Nat.le_of_ble_eq_true rfl) (Nat.le_of_ble_eq_true rfl) rfl rfl (by decide) rfl (by decide) (by decide) ?_
    rintro r_55 w ⟨m_trouble2_54, iv_56, rfl⟩
    refine k_ws [(cAI g a_r 311 d_r), (cO11_i1r1i10r1i2r5i2r12i3r4i2 h0 m_thrown2_1 a_tape m_taped m_size m_at m_end m_token m_whole m_nameSize m_fault m_place m_trouble2_54 a_letters m_failed m_hasHouse a_r a_fresh a_st a_undone a_kept m_undos m_images a_from a_begin a_motor a_change a_startFrame a_changeFrame a_lostAt a_blackAt a_slips a_leftArc a_died a_arcs m_bestSum m_nearest m_nearestTown a_there a_backAt a_sorted a_parts m_seed1 m_darkNow)] rfl ?_
    exact k_iret X hr dX11_wrong_16 (Nat.le_of_ble_eq_true rfl) (Nat.le_of_ble_eq_true rfl) [1, 0] (by decide) rfl rfl ⟨m_thrown2_1, m_trouble2_54, rfl⟩

theorem dX11_laySorted_0 : decode cX11_laySorted 0 = .ok (.iconst 0, 1) := dk_3 rfl
theorem dX11_laySorted_1 : decode cX11_laySorted 1 = .ok (.istore_n 1, 1) := dk_60 rfl
theorem dX11_laySorted_2 : decode cX11_laySorted 2 = .ok (.iload_n 1, 1) := dk_27 rfl
theorem dX11_laySorted_3 : decode cX11_laySorted 3 = .ok (.aload_n 0, 1) := dk_42 rfl
theorem dX11_laySorted_4 : decode cX11_laySorted 4 = .ok (.getfield 20, 3) := dk_180 rfl rfl rfl rfl
theorem dX11_laySorted_7 : decode cX11_laySorted 7 = .ok (.bipush 12, 2) := dk_16 rfl rfl (by decide)
theorem dX11_laySorted_9 : decode cX11_laySorted 9 = .ok (.iaload, 1) := dk_46 rfl
theorem dX11_laySorted_10 : decode cX11_laySorted 10 = .ok (.if_icmp .ge 62, 3) := dk_162 rfl rfl rfl (by decide)
theorem dX11_laySorted_13 : decode cX11_laySorted 13 = .ok (.iload_n 1, 1) := dk_27 rfl
theorem dX11_laySorted_14 : decode cX11_laySorted 14 = .ok (.istore_n 2, 1) := dk_61 rfl
theorem dX11_laySorted_15 : decode cX11_laySorted 15 = .ok (.iload_n 2, 1) := dk_28 rfl
theorem dX11_laySorted_16 : decode cX11_laySorted 16 = .ok (.ifCond .le 39, 3) := dk_158 rfl rfl rfl (by decide)
theorem dX11_laySorted_19 : decode cX11_laySorted 19 = .ok (.aload_n 0, 1) := dk_42 rfl
theorem dX11_laySorted_20 : decode cX11_laySorted 20 = .ok (.getfield 77, 3) := dk_180 rfl rfl rfl rfl
theorem dX11_laySorted_23 : decode cX11_laySorted 23 = .ok (.iload_n 2, 1) := dk_28 rfl
theorem dX11_laySorted_24 : decode cX11_laySorted 24 = .ok (.iconst 1, 1) := dk_4 rfl
theorem dX11_laySorted_25 : decode cX11_laySorted 25 = .ok (.isub, 1) := dk_100 rfl
theorem dX11_laySorted_26 : decode cX11_laySorted 26 = .ok (.iaload, 1) := dk_46 rfl
theorem dX11_laySorted_27 : decode cX11_laySorted 27 = .ok (.aload_n 0, 1) := dk_42 rfl
theorem dX11_laySorted_28 : decode cX11_laySorted 28 = .ok (.iload_n 1, 1) := dk_27 rfl
theorem dX11_laySorted_29 : decode cX11_laySorted 29 = .ok (.invokevirtual 324, 3) := dk_182 rfl rfl rfl rfl
theorem dX11_laySorted_32 : decode cX11_laySorted 32 = .ok (.if_icmp .le 23, 3) := dk_164 rfl rfl rfl (by decide)
theorem dX11_laySorted_35 : decode cX11_laySorted 35 = .ok (.aload_n 0, 1) := dk_42 rfl
theorem dX11_laySorted_36 : decode cX11_laySorted 36 = .ok (.getfield 77, 3) := dk_180 rfl rfl rfl rfl
theorem dX11_laySorted_39 : decode cX11_laySorted 39 = .ok (.iload_n 2, 1) := dk_28 rfl
theorem dX11_laySorted_40 : decode cX11_laySorted 40 = .ok (.aload_n 0, 1) := dk_42 rfl
theorem dX11_laySorted_41 : decode cX11_laySorted 41 = .ok (.getfield 77, 3) := dk_180 rfl rfl rfl rfl
theorem dX11_laySorted_44 : decode cX11_laySorted 44 = .ok (.iload_n 2, 1) := dk_28 rfl
theorem dX11_laySorted_45 : decode cX11_laySorted 45 = .ok (.iconst 1, 1) := dk_4 rfl
theorem dX11_laySorted_46 : decode cX11_laySorted 46 = .ok (.isub, 1) := dk_100 rfl
theorem dX11_laySorted_47 : decode cX11_laySorted 47 = .ok (.iaload, 1) := dk_46 rfl
theorem dX11_laySorted_48 : decode cX11_laySorted 48 = .ok (.iastore, 1) := dk_79 rfl
theorem dX11_laySorted_49 : decode cX11_laySorted 49 = .ok (.iinc 2 (-1), 3) := dk_132 rfl rfl rfl rfl (by decide)
theorem dX11_laySorted_52 : decode cX11_laySorted 52 = .ok (.goto (-37), 3) := dk_167 rfl rfl rfl (by decide)
theorem dX11_laySorted_55 : decode cX11_laySorted 55 = .ok (.aload_n 0, 1) := dk_42 rfl
theorem dX11_laySorted_56 : decode cX11_laySorted 56 = .ok (.getfield 77, 3) := dk_180 rfl rfl rfl rfl
theorem dX11_laySorted_59 : decode cX11_laySorted 59 = .ok (.iload_n 2, 1) := dk_28 rfl
theorem dX11_laySorted_60 : decode cX11_laySorted 60 = .ok (.aload_n 0, 1) := dk_42 rfl
theorem dX11_laySorted_61 : decode cX11_laySorted 61 = .ok (.iload_n 1, 1) := dk_27 rfl
theorem dX11_laySorted_62 : decode cX11_laySorted 62 = .ok (.invokevirtual 324, 3) := dk_182 rfl rfl rfl rfl
theorem dX11_laySorted_65 : decode cX11_laySorted 65 = .ok (.iastore, 1) := dk_79 rfl
theorem dX11_laySorted_66 : decode cX11_laySorted 66 = .ok (.iinc 1 1, 3) := dk_132 rfl rfl rfl rfl (by decide)
theorem dX11_laySorted_69 : decode cX11_laySorted 69 = .ok (.goto (-67), 3) := dk_167 rfl rfl rfl (by decide)
theorem dX11_laySorted_72 : decode cX11_laySorted 72 = .ok (.return_, 1) := dk_177 rfl
set_option maxHeartbeats 4000000 in
set_option maxRecDepth 100000 in
theorem m_laySorted (l : Launch) (g : Gx) (h0 : Nat) (m_thrown : Int32) (a_tape : Nat) (m_taped : Int32) (m_size : Int32) (m_at : Int32) (m_end : Int32) (m_token : Int32) (m_whole : Int32) (m_nameSize : Int32) (m_fault : Int32) (m_place : Int32) (m_trouble : Int32) (a_letters : Nat) (m_failed : Int32) (m_hasHouse : Int32) (a_r : Nat) (a_fresh : Nat) (a_st : Nat) (a_undone : Nat) (a_kept : Nat) (m_undos : Int32) (m_images : Int32) (a_from : Nat) (a_begin : Nat) (a_motor : Nat) (a_change : Nat) (a_startFrame : Nat) (a_changeFrame : Nat) (a_lostAt : Nat) (a_blackAt : Nat) (a_slips : Nat) (a_leftArc : Nat) (a_died : Nat) (a_arcs : Nat) (m_bestSum : Int32) (m_nearest : Int32) (m_nearestTown : Int32) (a_there : Nat) (a_backAt : Nat) (a_sorted : Nat) (a_parts : Nat) (m_seed1 : Int32) (m_darkNow : Int32) (d_r : Nat → Int32) (d_sorted : Nat → Int32) (hp_d_r : RInv d_r) : cV l g yX11_laySorted cX11_laySorted 3 1 21 0 0 [.ref h0] [(cO11_i1r1i10r1i2r5i2r12i3r4i2 h0 m_thrown a_tape m_taped m_size m_at m_end m_token m_whole m_nameSize m_fault m_place m_trouble a_letters m_failed m_hasHouse a_r a_fresh a_st a_undone a_kept m_undos m_images a_from a_begin a_motor a_change a_startFrame a_changeFrame a_lostAt a_blackAt a_slips a_leftArc a_died a_arcs m_bestSum m_nearest m_nearestTown a_there a_backAt a_sorted a_parts m_seed1 m_darkNow), (cAI g a_r 311 d_r), (cAI g a_sorted 8 d_sorted)] (fun w => ∃ (d_sorted2 : Nat → Int32), w = [(cO11_i1r1i10r1i2r5i2r12i3r4i2 h0 m_thrown a_tape m_taped m_size m_at m_end m_token m_whole m_nameSize m_fault m_place m_trouble a_letters m_failed m_hasHouse a_r a_fresh a_st a_undone a_kept m_undos m_images a_from a_begin a_motor a_change a_startFrame a_changeFrame a_lostAt a_blackAt a_slips a_leftArc a_died a_arcs m_bestSum m_nearest m_nearestTown a_there a_backAt a_sorted a_parts m_seed1 m_darkNow), (cAI g a_r 311 d_r), (cAI g a_sorted 8 d_sorted2)]) := by
  refine cV.of (by decide) (Nat.le_of_ble_eq_true rfl) ?_
  intro p e s m args below meth c A X hr hi
  refine k_lveq [(0, .ref h0)] rfl ?_
  refine k_iconst (v := 0) X dX11_laySorted_0 (by decide) ?_
  refine k_istore_n [(1, .int 0), (0, .ref h0)] X dX11_laySorted_1 (by decide) rfl ?_
  refine (fun hL : ∀ (nn_4 : Nat) (uf_1 : Nat → Int32) (u_2 : Int32), (2147483647 - u_2.toInt).toNat = nn_4 → (IV u_2 0 8) → Wk p l e _ s m args below meth c _ A g _ _ _ [(cO11_i1r1i10r1i2r5i2r12i3r4i2 h0 m_thrown a_tape m_taped m_size m_at m_end m_token m_whole m_nameSize m_fault m_place m_trouble a_letters m_failed m_hasHouse a_r a_fresh a_st a_undone a_kept m_undos m_images a_from a_begin a_motor a_change a_startFrame a_changeFrame a_lostAt a_blackAt a_slips a_leftArc a_died a_arcs m_bestSum m_nearest m_nearestTown a_there a_backAt a_sorted a_parts m_seed1 m_darkNow), (cAI g a_r 311 d_r), (cAI g a_sorted 8 uf_1)] [(1, .int u_2), (0, .ref h0)] 2 [] => hL _ d_sorted 0 rfl (iv_w (show IV 0 0 0 from (by decide)) (by decide) (by decide))) ?_
  refine fun nn_4 => Nat.strongRecOn nn_4 (fun nn_4 ih_6 => ?_)
  intro uf_1 u_2 hm_5 hv_3
  refine k_iload_n X dX11_laySorted_2 0 rfl ?_
  refine k_aload_n X dX11_laySorted_3 1 rfl ?_
  refine k_get (ci := 11) X inlX11 rfl 15 (by decide) dX11_laySorted_4 mw170 0 rfl rfl ?_
  refine k_bipush (v := 12) X dX11_laySorted_7 (by decide) ?_
  refine k_iald X dX11_laySorted_9 1 rfl (by unfold vp_in; decide) ?_
  refine k_nm (fun z_7 ez_7 => ?_)
  have i_8 : z_7.toInt = (d_r 12).toInt := by rw [ez_7]; rfl
  have iv_9 : IV z_7 0 8 := rb_12 ez_7 hp_d_r
  refine k_ic_ge 72 X dX11_laySorted_10 (by decide) (fun h_10 => ?_) (fun h_10 => ?_)
  · skip
    have j_11 : z_7.toInt ≤ u_2.toInt := iv_le h_10
    exact k_vret X hr dX11_laySorted_72 (Nat.le_of_ble_eq_true rfl) (Nat.le_of_ble_eq_true rfl) [0, 1, 2] (by decide) rfl rfl ⟨uf_1, rfl⟩
  · skip
    have j_12 : u_2.toInt < z_7.toInt := iv_nle h_10
    have iv_13 : IV u_2 0 7 := iv_ltL (iv_nle h_10) hv_3 iv_9 (by decide)
    have iv_14 : IV z_7 1 8 := iv_ltR (iv_nle h_10) hv_3 iv_9 (by decide)
    refine k_iload_n X dX11_laySorted_13 0 rfl ?_
    refine k_istore_n [(2, .int u_2), (1, .int u_2), (0, .ref h0)] X dX11_laySorted_14 (by decide) rfl ?_
    refine (fun hL : ∀ (nn_18 : Nat) (uf_15 : Nat → Int32) (u_16 : Int32), u_16.toInt.toNat = nn_18 → (IV u_16 0 7) → Wk p l e _ s m args below meth c _ A g _ _ _ [(cO11_i1r1i10r1i2r5i2r12i3r4i2 h0 m_thrown a_tape m_taped m_size m_at m_end m_token m_whole m_nameSize m_fault m_place m_trouble a_letters m_failed m_hasHouse a_r a_fresh a_st a_undone a_kept m_undos m_images a_from a_begin a_motor a_change a_startFrame a_changeFrame a_lostAt a_blackAt a_slips a_leftArc a_died a_arcs m_bestSum m_nearest m_nearestTown a_there a_backAt a_sorted a_parts m_seed1 m_darkNow), (cAI g a_r 311 d_r), (cAI g a_sorted 8 uf_15)] [(2, .int u_16), (1, .int u_2), (0, .ref h0)] 15 [] => hL _ uf_1 u_2 rfl (iv_w iv_13 (by decide) (by decide))) ?_
    refine fun nn_18 => Nat.strongRecOn nn_18 (fun nn_18 ih_20 => ?_)
    intro uf_15 u_16 hm_19 hv_17
    refine k_iload_n X dX11_laySorted_15 0 rfl ?_
    refine k_if_le 55 X dX11_laySorted_16 (by decide) (fun h_21 => ?_) (fun h_21 => ?_)
    · skip
      have j_22 : u_16.toInt ≤ 0 := iv_le h_21
      have iv_23 : IV u_16 0 0 := iv_leL (iv_le h_21) hv_17 (show IV 0 0 0 from (by decide)) (by decide)
      refine k_aload_n X dX11_laySorted_55 2 rfl ?_
      refine k_get (ci := 11) X inlX11 rfl 39 (by decide) dX11_laySorted_56 mw189 0 rfl rfl ?_
      refine k_iload_n X dX11_laySorted_59 0 rfl ?_
      refine k_aload_n X dX11_laySorted_60 2 rfl ?_
      refine k_iload_n X dX11_laySorted_61 1 rfl ?_
      refine k_callVI (n := 1) (As := [.int u_2]) (st := [.int u_16, .ref a_sorted]) X [(cO11_i1r1i10r1i2r5i2r12i3r4i2 h0 m_thrown a_tape m_taped m_size m_at m_end m_token m_whole m_nameSize m_fault m_place m_trouble a_letters m_failed m_hasHouse a_r a_fresh a_st a_undone a_kept m_undos m_images a_from a_begin a_motor a_change a_startFrame a_changeFrame a_lostAt a_blackAt a_slips a_leftArc a_died a_arcs m_bestSum m_nearest m_nearestTown a_there a_backAt a_sorted a_parts m_seed1 m_darkNow), (cAI g a_r 311 d_r)] [(cAI g a_sorted 8 uf_15)] [0, 1] [2] (m_reelAt l g h0 u_2 m_thrown a_tape m_taped m_size m_at m_end m_token m_whole m_nameSize m_fault m_place m_trouble a_letters m_failed m_hasHouse a_r a_fresh a_st a_undone a_kept m_undos m_images a_from a_begin a_motor a_change a_startFrame a_changeFrame a_lostAt a_blackAt a_slips a_leftArc a_died a_arcs m_bestSum m_nearest m_nearestTown a_there a_backAt a_sorted a_parts m_seed1 m_darkNow d_r (iv_w iv_13 (by decide) (by decide)) hp_d_r) dX11_laySorted_62 mw723 mw724 mw725 mw5 mw726 rfl 11 rfl rfl 0 _ rfl yk_yX11_reelAt_1 rfl (Nat.le_of_ble_eq_true rfl) (Nat.le_of_ble_eq_true rfl) (Nat.le_of_ble_eq_true rfl) (Nat.le_of_ble_eq_true rfl) (Nat.le_of_ble_eq_true rfl) rfl rfl (by decide) rfl (by decide) (by decide) ?_
      rintro r_24 w ⟨iv_25, rfl⟩
      refine k_ws [(cAI g a_sorted 8 uf_15), (cO11_i1r1i10r1i2r5i2r12i3r4i2 h0 m_thrown a_tape m_taped m_size m_at m_end m_token m_whole m_nameSize m_fault m_place m_trouble a_letters m_failed m_hasHouse a_r a_fresh a_st a_undone a_kept m_undos m_images a_from a_begin a_motor a_change a_startFrame a_changeFrame a_lostAt a_blackAt a_slips a_leftArc a_died a_arcs m_bestSum m_nearest m_nearestTown a_there a_backAt a_sorted a_parts m_seed1 m_darkNow), (cAI g a_r 311 d_r)] rfl ?_
      refine k_iast [(cAI g a_sorted 8 (upd uf_15 (u_16 : Int32).toNatClampNeg r_24)), (cO11_i1r1i10r1i2r5i2r12i3r4i2 h0 m_thrown a_tape m_taped m_size m_at m_end m_token m_whole m_nameSize m_fault m_place m_trouble a_letters m_failed m_hasHouse a_r a_fresh a_st a_undone a_kept m_undos m_images a_from a_begin a_motor a_change a_startFrame a_changeFrame a_lostAt a_blackAt a_slips a_leftArc a_died a_arcs m_bestSum m_nearest m_nearestTown a_there a_backAt a_sorted a_parts m_seed1 m_darkNow), (cAI g a_r 311 d_r)] X dX11_laySorted_65 0 rfl (iv_in iv_23 (by decide) (by decide)) rfl ?_
      refine (fun hg : ∀ fa_26 : Nat → Int32, Wk p l e _ s m args below meth c _ A g _ _ _ [(cAI g a_sorted 8 fa_26), (cO11_i1r1i10r1i2r5i2r12i3r4i2 h0 m_thrown a_tape m_taped m_size m_at m_end m_token m_whole m_nameSize m_fault m_place m_trouble a_letters m_failed m_hasHouse a_r a_fresh a_st a_undone a_kept m_undos m_images a_from a_begin a_motor a_change a_startFrame a_changeFrame a_lostAt a_blackAt a_slips a_leftArc a_died a_arcs m_bestSum m_nearest m_nearestTown a_there a_backAt a_sorted a_parts m_seed1 m_darkNow), (cAI g a_r 311 d_r)] _ _ _ => hg _) (fun fa_26 => ?_)
      obtain ⟨z_27, ez_27⟩ : ∃ y : Int32, u_2 + Int32.ofInt 1 = y := ⟨_, rfl⟩
      refine k_iinc z_27 [(1, .int z_27), (2, .int u_16), (0, .ref h0)] 1 X dX11_laySorted_66 rfl ez_27 (by decide) rfl ?_
      have i_28 : z_27.toInt = u_2.toInt + 1 := in_inc ez_27 (by decide) iv_13 (by decide) (by decide)
      have iv_29 : IV z_27 1 8 := iz1 i_28 iv_13 (by decide) (by decide)
      refine k_goto 2 X dX11_laySorted_69 (by decide) ?_
      refine k_lv [(1, .int z_27), (0, .ref h0)] [0, 2] rfl ?_
      refine k_sub [(cO11_i1r1i10r1i2r5i2r12i3r4i2 h0 m_thrown a_tape m_taped m_size m_at m_end m_token m_whole m_nameSize m_fault m_place m_trouble a_letters m_failed m_hasHouse a_r a_fresh a_st a_undone a_kept m_undos m_images a_from a_begin a_motor a_change a_startFrame a_changeFrame a_lostAt a_blackAt a_slips a_leftArc a_died a_arcs m_bestSum m_nearest m_nearestTown a_there a_backAt a_sorted a_parts m_seed1 m_darkNow), (cAI g a_r 311 d_r), (cAI g a_sorted 8 fa_26)] [1, 2, 0] rfl (by decide) rfl ?_
      exact ih_6 _ (by omega) fa_26 z_27 rfl (iv_w iv_29 (by decide) (by decide))
    · skip
      have j_30 : 0 < u_16.toInt := iv_nle h_21
      have iv_31 : IV u_16 1 7 := iv_ltR (iv_nle h_21) (show IV 0 0 0 from (by decide)) hv_17 (by decide)
      refine k_aload_n X dX11_laySorted_19 2 rfl ?_
      refine k_get (ci := 11) X inlX11 rfl 39 (by decide) dX11_laySorted_20 mw189 0 rfl rfl ?_
      refine k_iload_n X dX11_laySorted_23 0 rfl ?_
      refine k_iconst (v := 1) X dX11_laySorted_24 (by decide) ?_
      refine k_isub X dX11_laySorted_25 ?_
      refine k_nm (fun z_32 ez_32 => ?_)
      have i_33 : z_32.toInt = u_16.toInt - 1 := in_sub ez_32 iv_31 (show IV 1 1 1 from (by decide)) (by decide) (by decide)
      have iv_34 : IV z_32 0 6 := iz5 i_33 iv_31 (by decide) (by decide)
      refine k_iald X dX11_laySorted_26 2 rfl (iv_in iv_34 (by decide) (by decide)) ?_
      refine k_nm (fun z_35 ez_35 => ?_)
      refine k_aload_n X dX11_laySorted_27 2 rfl ?_
      refine k_iload_n X dX11_laySorted_28 1 rfl ?_
      refine k_callVI (n := 1) (As := [.int u_2]) (st := [.int z_35]) X [(cO11_i1r1i10r1i2r5i2r12i3r4i2 h0 m_thrown a_tape m_taped m_size m_at m_end m_token m_whole m_nameSize m_fault m_place m_trouble a_letters m_failed m_hasHouse a_r a_fresh a_st a_undone a_kept m_undos m_images a_from a_begin a_motor a_change a_startFrame a_changeFrame a_lostAt a_blackAt a_slips a_leftArc a_died a_arcs m_bestSum m_nearest m_nearestTown a_there a_backAt a_sorted a_parts m_seed1 m_darkNow), (cAI g a_r 311 d_r)] [(cAI g a_sorted 8 uf_15)] [0, 1] [2] (m_reelAt l g h0 u_2 m_thrown a_tape m_taped m_size m_at m_end m_token m_whole m_nameSize m_fault m_place m_trouble a_letters m_failed m_hasHouse a_r a_fresh a_st a_undone a_kept m_undos m_images a_from a_begin a_motor a_change a_startFrame a_changeFrame a_lostAt a_blackAt a_slips a_leftArc a_died a_arcs m_bestSum m_nearest m_nearestTown a_there a_backAt a_sorted a_parts m_seed1 m_darkNow d_r (iv_w iv_13 (by decide) (by decide)) hp_d_r) dX11_laySorted_29 mw723 mw724 mw725 mw5 mw726 rfl 11 rfl rfl 0 _ rfl yk_yX11_reelAt_1 rfl (Nat.le_of_ble_eq_true rfl) (Nat.le_of_ble_eq_true rfl) (Nat.le_of_ble_eq_true rfl) (Nat.le_of_ble_eq_true rfl) (Nat.le_of_ble_eq_true rfl) rfl rfl (by decide) rfl (by decide) (by decide) ?_
      rintro r_36 w ⟨iv_37, rfl⟩
      refine k_ws [(cAI g a_sorted 8 uf_15), (cO11_i1r1i10r1i2r5i2r12i3r4i2 h0 m_thrown a_tape m_taped m_size m_at m_end m_token m_whole m_nameSize m_fault m_place m_trouble a_letters m_failed m_hasHouse a_r a_fresh a_st a_undone a_kept m_undos m_images a_from a_begin a_motor a_change a_startFrame a_changeFrame a_lostAt a_blackAt a_slips a_leftArc a_died a_arcs m_bestSum m_nearest m_nearestTown a_there a_backAt a_sorted a_parts m_seed1 m_darkNow), (cAI g a_r 311 d_r)] rfl ?_
      refine k_ic_le 55 X dX11_laySorted_32 (by decide) (fun h_38 => ?_) (fun h_38 => ?_)
      · skip
        have j_39 : z_35.toInt ≤ r_36.toInt := iv_le h_38
        have iv_40 : IV z_35 (-2147483648) 7 := iv_leL (iv_le h_38) (iv_any z_35) iv_37 (by decide)
        refine k_aload_n X dX11_laySorted_55 2 rfl ?_
        refine k_get (ci := 11) X inlX11 rfl 39 (by decide) dX11_laySorted_56 mw189 1 rfl rfl ?_
        refine k_iload_n X dX11_laySorted_59 0 rfl ?_
        refine k_aload_n X dX11_laySorted_60 2 rfl ?_
        refine k_iload_n X dX11_laySorted_61 1 rfl ?_
        refine k_callVI (n := 1) (As := [.int u_2]) (st := [.int u_16, .ref a_sorted]) X [(cO11_i1r1i10r1i2r5i2r12i3r4i2 h0 m_thrown a_tape m_taped m_size m_at m_end m_token m_whole m_nameSize m_fault m_place m_trouble a_letters m_failed m_hasHouse a_r a_fresh a_st a_undone a_kept m_undos m_images a_from a_begin a_motor a_change a_startFrame a_changeFrame a_lostAt a_blackAt a_slips a_leftArc a_died a_arcs m_bestSum m_nearest m_nearestTown a_there a_backAt a_sorted a_parts m_seed1 m_darkNow), (cAI g a_r 311 d_r)] [(cAI g a_sorted 8 uf_15)] [1, 2] [0] (m_reelAt l g h0 u_2 m_thrown a_tape m_taped m_size m_at m_end m_token m_whole m_nameSize m_fault m_place m_trouble a_letters m_failed m_hasHouse a_r a_fresh a_st a_undone a_kept m_undos m_images a_from a_begin a_motor a_change a_startFrame a_changeFrame a_lostAt a_blackAt a_slips a_leftArc a_died a_arcs m_bestSum m_nearest m_nearestTown a_there a_backAt a_sorted a_parts m_seed1 m_darkNow d_r (iv_w iv_13 (by decide) (by decide)) hp_d_r) dX11_laySorted_62 mw723 mw724 mw725 mw5 mw726 rfl 11 rfl rfl 0 _ rfl yk_yX11_reelAt_1 rfl (Nat.le_of_ble_eq_true rfl) (Nat.le_of_ble_eq_true rfl) (Nat.le_of_ble_eq_true rfl) (Nat.le_of_ble_eq_true rfl) (Nat.le_of_ble_eq_true rfl) rfl rfl (by decide) rfl (by decide) (by decide) ?_
        rintro r_41 w ⟨iv_42, rfl⟩
        refine k_ws [(cAI g a_sorted 8 uf_15), (cO11_i1r1i10r1i2r5i2r12i3r4i2 h0 m_thrown a_tape m_taped m_size m_at m_end m_token m_whole m_nameSize m_fault m_place m_trouble a_letters m_failed m_hasHouse a_r a_fresh a_st a_undone a_kept m_undos m_images a_from a_begin a_motor a_change a_startFrame a_changeFrame a_lostAt a_blackAt a_slips a_leftArc a_died a_arcs m_bestSum m_nearest m_nearestTown a_there a_backAt a_sorted a_parts m_seed1 m_darkNow), (cAI g a_r 311 d_r)] rfl ?_
        refine k_iast [(cAI g a_sorted 8 (upd uf_15 (u_16 : Int32).toNatClampNeg r_41)), (cO11_i1r1i10r1i2r5i2r12i3r4i2 h0 m_thrown a_tape m_taped m_size m_at m_end m_token m_whole m_nameSize m_fault m_place m_trouble a_letters m_failed m_hasHouse a_r a_fresh a_st a_undone a_kept m_undos m_images a_from a_begin a_motor a_change a_startFrame a_changeFrame a_lostAt a_blackAt a_slips a_leftArc a_died a_arcs m_bestSum m_nearest m_nearestTown a_there a_backAt a_sorted a_parts m_seed1 m_darkNow), (cAI g a_r 311 d_r)] X dX11_laySorted_65 0 rfl (iv_in iv_31 (by decide) (by decide)) rfl ?_
        refine (fun hg : ∀ fa_43 : Nat → Int32, Wk p l e _ s m args below meth c _ A g _ _ _ [(cAI g a_sorted 8 fa_43), (cO11_i1r1i10r1i2r5i2r12i3r4i2 h0 m_thrown a_tape m_taped m_size m_at m_end m_token m_whole m_nameSize m_fault m_place m_trouble a_letters m_failed m_hasHouse a_r a_fresh a_st a_undone a_kept m_undos m_images a_from a_begin a_motor a_change a_startFrame a_changeFrame a_lostAt a_blackAt a_slips a_leftArc a_died a_arcs m_bestSum m_nearest m_nearestTown a_there a_backAt a_sorted a_parts m_seed1 m_darkNow), (cAI g a_r 311 d_r)] _ _ _ => hg _) (fun fa_43 => ?_)
        obtain ⟨z_44, ez_44⟩ : ∃ y : Int32, u_2 + Int32.ofInt 1 = y := ⟨_, rfl⟩
        refine k_iinc z_44 [(1, .int z_44), (2, .int u_16), (0, .ref h0)] 1 X dX11_laySorted_66 rfl ez_44 (by decide) rfl ?_
        have i_45 : z_44.toInt = u_2.toInt + 1 := in_inc ez_44 (by decide) iv_13 (by decide) (by decide)
        have iv_46 : IV z_44 1 8 := iz1 i_45 iv_13 (by decide) (by decide)
        refine k_goto 2 X dX11_laySorted_69 (by decide) ?_
        refine k_lv [(1, .int z_44), (0, .ref h0)] [0, 2] rfl ?_
        refine k_sub [(cO11_i1r1i10r1i2r5i2r12i3r4i2 h0 m_thrown a_tape m_taped m_size m_at m_end m_token m_whole m_nameSize m_fault m_place m_trouble a_letters m_failed m_hasHouse a_r a_fresh a_st a_undone a_kept m_undos m_images a_from a_begin a_motor a_change a_startFrame a_changeFrame a_lostAt a_blackAt a_slips a_leftArc a_died a_arcs m_bestSum m_nearest m_nearestTown a_there a_backAt a_sorted a_parts m_seed1 m_darkNow), (cAI g a_r 311 d_r), (cAI g a_sorted 8 fa_43)] [1, 2, 0] rfl (by decide) rfl ?_
        exact ih_6 _ (by omega) fa_43 z_44 rfl (iv_w iv_46 (by decide) (by decide))
      · skip
        have j_47 : r_36.toInt < z_35.toInt := iv_nle h_38
        have iv_48 : IV z_35 1 2147483647 := iv_ltR (iv_nle h_38) iv_37 (iv_any z_35) (by decide)
        refine k_aload_n X dX11_laySorted_35 2 rfl ?_
        refine k_get (ci := 11) X inlX11 rfl 39 (by decide) dX11_laySorted_36 mw189 1 rfl rfl ?_
        refine k_iload_n X dX11_laySorted_39 0 rfl ?_
        refine k_aload_n X dX11_laySorted_40 2 rfl ?_
        refine k_get (ci := 11) X inlX11 rfl 39 (by decide) dX11_laySorted_41 mw189 1 rfl rfl ?_
        refine k_iload_n X dX11_laySorted_44 0 rfl ?_
        refine k_iconst (v := 1) X dX11_laySorted_45 (by decide) ?_
        refine k_isub X dX11_laySorted_46 ?_
        refine k_to z_32 ez_32.symm ?_
        refine k_iald X dX11_laySorted_47 0 rfl (iv_in iv_34 (by decide) (by decide)) ?_
        refine k_to z_35 ez_35.symm ?_
        refine k_iast [(cAI g a_sorted 8 (upd uf_15 (u_16 : Int32).toNatClampNeg z_35)), (cO11_i1r1i10r1i2r5i2r12i3r4i2 h0 m_thrown a_tape m_taped m_size m_at m_end m_token m_whole m_nameSize m_fault m_place m_trouble a_letters m_failed m_hasHouse a_r a_fresh a_st a_undone a_kept m_undos m_images a_from a_begin a_motor a_change a_startFrame a_changeFrame a_lostAt a_blackAt a_slips a_leftArc a_died a_arcs m_bestSum m_nearest m_nearestTown a_there a_backAt a_sorted a_parts m_seed1 m_darkNow), (cAI g a_r 311 d_r)] X dX11_laySorted_48 0 rfl (iv_in iv_31 (by decide) (by decide)) rfl ?_
        refine (fun hg : ∀ fa_49 : Nat → Int32, Wk p l e _ s m args below meth c _ A g _ _ _ [(cAI g a_sorted 8 fa_49), (cO11_i1r1i10r1i2r5i2r12i3r4i2 h0 m_thrown a_tape m_taped m_size m_at m_end m_token m_whole m_nameSize m_fault m_place m_trouble a_letters m_failed m_hasHouse a_r a_fresh a_st a_undone a_kept m_undos m_images a_from a_begin a_motor a_change a_startFrame a_changeFrame a_lostAt a_blackAt a_slips a_leftArc a_died a_arcs m_bestSum m_nearest m_nearestTown a_there a_backAt a_sorted a_parts m_seed1 m_darkNow), (cAI g a_r 311 d_r)] _ _ _ => hg _) (fun fa_49 => ?_)
        obtain ⟨z_50, ez_50⟩ : ∃ y : Int32, u_16 + Int32.ofInt (-1) = y := ⟨_, rfl⟩
        refine k_iinc z_50 [(2, .int z_50), (1, .int u_2), (0, .ref h0)] 0 X dX11_laySorted_49 rfl ez_50 (by decide) rfl ?_
        have i_51 : z_50.toInt = u_16.toInt + (-1) := in_inc ez_50 (by decide) iv_31 (by decide) (by decide)
        have iv_52 : IV z_50 0 6 := iz1 i_51 iv_31 (by decide) (by decide)
        refine k_goto 15 X dX11_laySorted_52 (by decide) ?_
        refine k_sub [(cO11_i1r1i10r1i2r5i2r12i3r4i2 h0 m_thrown a_tape m_taped m_size m_at m_end m_token m_whole m_nameSize m_fault m_place m_trouble a_letters m_failed m_hasHouse a_r a_fresh a_st a_undone a_kept m_undos m_images a_from a_begin a_motor a_change a_startFrame a_changeFrame a_lostAt a_blackAt a_slips a_leftArc a_died a_arcs m_bestSum m_nearest m_nearestTown a_there a_backAt a_sorted a_parts m_seed1 m_darkNow), (cAI g a_r 311 d_r), (cAI g a_sorted 8 fa_49)] [1, 2, 0] rfl (by decide) rfl ?_
        exact ih_20 _ (by omega) fa_49 z_50 rfl (iv_w iv_52 (by decide) (by decide))

theorem dX11_isEven_0 : decode cX11_isEven 0 = .ok (.iconst 1, 1) := dk_4 rfl
theorem dX11_isEven_1 : decode cX11_isEven 1 = .ok (.istore_n 2, 1) := dk_61 rfl
theorem dX11_isEven_2 : decode cX11_isEven 2 = .ok (.iconst 0, 1) := dk_3 rfl
theorem dX11_isEven_3 : decode cX11_isEven 3 = .ok (.istore_n 3, 1) := dk_62 rfl
theorem dX11_isEven_4 : decode cX11_isEven 4 = .ok (.iload_n 3, 1) := dk_29 rfl
theorem dX11_isEven_5 : decode cX11_isEven 5 = .ok (.aload_n 0, 1) := dk_42 rfl
theorem dX11_isEven_6 : decode cX11_isEven 6 = .ok (.getfield 20, 3) := dk_180 rfl rfl rfl rfl
theorem dX11_isEven_9 : decode cX11_isEven 9 = .ok (.bipush 6, 2) := dk_16 rfl rfl (by decide)
theorem dX11_isEven_11 : decode cX11_isEven 11 = .ok (.iaload, 1) := dk_46 rfl
theorem dX11_isEven_12 : decode cX11_isEven 12 = .ok (.if_icmp .ge 94, 3) := dk_162 rfl rfl rfl (by decide)
theorem dX11_isEven_15 : decode cX11_isEven 15 = .ok (.iconst 0, 1) := dk_3 rfl
theorem dX11_isEven_16 : decode cX11_isEven 16 = .ok (.istore 4, 2) := dk_54 rfl rfl rfl
theorem dX11_isEven_18 : decode cX11_isEven 18 = .ok (.iconst 0, 1) := dk_3 rfl
theorem dX11_isEven_19 : decode cX11_isEven 19 = .ok (.istore 5, 2) := dk_54 rfl rfl rfl
theorem dX11_isEven_21 : decode cX11_isEven 21 = .ok (.iload 5, 2) := dk_21 rfl rfl rfl
theorem dX11_isEven_23 : decode cX11_isEven 23 = .ok (.aload_n 0, 1) := dk_42 rfl
theorem dX11_isEven_24 : decode cX11_isEven 24 = .ok (.getfield 20, 3) := dk_180 rfl rfl rfl rfl
theorem dX11_isEven_27 : decode cX11_isEven 27 = .ok (.bipush 12, 2) := dk_16 rfl rfl (by decide)
theorem dX11_isEven_29 : decode cX11_isEven 29 = .ok (.iaload, 1) := dk_46 rfl
theorem dX11_isEven_30 : decode cX11_isEven 30 = .ok (.if_icmp .ge 55, 3) := dk_162 rfl rfl rfl (by decide)
theorem dX11_isEven_33 : decode cX11_isEven 33 = .ok (.iload_n 1, 1) := dk_27 rfl
theorem dX11_isEven_34 : decode cX11_isEven 34 = .ok (.iload 5, 2) := dk_21 rfl rfl rfl
theorem dX11_isEven_36 : decode cX11_isEven 36 = .ok (.invokestatic 320, 3) := dk_184 rfl rfl rfl rfl
theorem dX11_isEven_39 : decode cX11_isEven 39 = .ok (.ifCond .eq 40, 3) := dk_153 rfl rfl rfl (by decide)
theorem dX11_isEven_42 : decode cX11_isEven 42 = .ok (.iload 4, 2) := dk_21 rfl rfl rfl
theorem dX11_isEven_44 : decode cX11_isEven 44 = .ok (.aload_n 0, 1) := dk_42 rfl
theorem dX11_isEven_45 : decode cX11_isEven 45 = .ok (.iload 5, 2) := dk_21 rfl rfl rfl
theorem dX11_isEven_47 : decode cX11_isEven 47 = .ok (.invokevirtual 324, 3) := dk_182 rfl rfl rfl rfl
theorem dX11_isEven_50 : decode cX11_isEven 50 = .ok (.iload_n 3, 1) := dk_29 rfl
theorem dX11_isEven_51 : decode cX11_isEven 51 = .ok (.if_icmp .ne 7, 3) := dk_160 rfl rfl rfl (by decide)
theorem dX11_isEven_54 : decode cX11_isEven 54 = .ok (.iconst 1, 1) := dk_4 rfl
theorem dX11_isEven_55 : decode cX11_isEven 55 = .ok (.goto 4, 3) := dk_167 rfl rfl rfl (by decide)
theorem dX11_isEven_58 : decode cX11_isEven 58 = .ok (.iconst 0, 1) := dk_3 rfl
theorem dX11_isEven_59 : decode cX11_isEven 59 = .ok (.aload_n 0, 1) := dk_42 rfl
theorem dX11_isEven_60 : decode cX11_isEven 60 = .ok (.getfield 77, 3) := dk_180 rfl rfl rfl rfl
theorem dX11_isEven_63 : decode cX11_isEven 63 = .ok (.iload 5, 2) := dk_21 rfl rfl rfl
theorem dX11_isEven_65 : decode cX11_isEven 65 = .ok (.iaload, 1) := dk_46 rfl
theorem dX11_isEven_66 : decode cX11_isEven 66 = .ok (.iload_n 3, 1) := dk_29 rfl
theorem dX11_isEven_67 : decode cX11_isEven 67 = .ok (.if_icmp .ne 7, 3) := dk_160 rfl rfl rfl (by decide)
theorem dX11_isEven_70 : decode cX11_isEven 70 = .ok (.iconst 1, 1) := dk_4 rfl
theorem dX11_isEven_71 : decode cX11_isEven 71 = .ok (.goto 4, 3) := dk_167 rfl rfl rfl (by decide)
theorem dX11_isEven_74 : decode cX11_isEven 74 = .ok (.iconst 0, 1) := dk_3 rfl
theorem dX11_isEven_75 : decode cX11_isEven 75 = .ok (.isub, 1) := dk_100 rfl
theorem dX11_isEven_76 : decode cX11_isEven 76 = .ok (.iadd, 1) := dk_96 rfl
theorem dX11_isEven_77 : decode cX11_isEven 77 = .ok (.istore 4, 2) := dk_54 rfl rfl rfl
theorem dX11_isEven_79 : decode cX11_isEven 79 = .ok (.iinc 5 1, 3) := dk_132 rfl rfl rfl rfl (by decide)
theorem dX11_isEven_82 : decode cX11_isEven 82 = .ok (.goto (-61), 3) := dk_167 rfl rfl rfl (by decide)
theorem dX11_isEven_85 : decode cX11_isEven 85 = .ok (.iload_n 2, 1) := dk_28 rfl
theorem dX11_isEven_86 : decode cX11_isEven 86 = .ok (.ifCond .eq 12, 3) := dk_153 rfl rfl rfl (by decide)
theorem dX11_isEven_89 : decode cX11_isEven 89 = .ok (.iload 4, 2) := dk_21 rfl rfl rfl
theorem dX11_isEven_91 : decode cX11_isEven 91 = .ok (.ifCond .ne 7, 3) := dk_154 rfl rfl rfl (by decide)
theorem dX11_isEven_94 : decode cX11_isEven 94 = .ok (.iconst 1, 1) := dk_4 rfl
theorem dX11_isEven_95 : decode cX11_isEven 95 = .ok (.goto 4, 3) := dk_167 rfl rfl rfl (by decide)
theorem dX11_isEven_98 : decode cX11_isEven 98 = .ok (.iconst 0, 1) := by decide +kernel
theorem dX11_isEven_99 : decode cX11_isEven 99 = .ok (.istore_n 2, 1) := by decide +kernel
theorem dX11_isEven_100 : decode cX11_isEven 100 = .ok (.iinc 3 1, 3) := by decide +kernel
theorem dX11_isEven_103 : decode cX11_isEven 103 = .ok (.goto (-99), 3) := by decide +kernel
theorem dX11_isEven_106 : decode cX11_isEven 106 = .ok (.iload_n 2, 1) := by decide +kernel
theorem dX11_isEven_107 : decode cX11_isEven 107 = .ok (.ireturn, 1) := by decide +kernel
set_option maxHeartbeats 4000000 in
set_option maxRecDepth 100000 in
theorem m_isEven (l : Launch) (g : Gx) (h0 : Nat) (p0 : Int32) (m_thrown : Int32) (a_tape : Nat) (m_taped : Int32) (m_size : Int32) (m_at : Int32) (m_end : Int32) (m_token : Int32) (m_whole : Int32) (m_nameSize : Int32) (m_fault : Int32) (m_place : Int32) (m_trouble : Int32) (a_letters : Nat) (m_failed : Int32) (m_hasHouse : Int32) (a_r : Nat) (a_fresh : Nat) (a_st : Nat) (a_undone : Nat) (a_kept : Nat) (m_undos : Int32) (m_images : Int32) (a_from : Nat) (a_begin : Nat) (a_motor : Nat) (a_change : Nat) (a_startFrame : Nat) (a_changeFrame : Nat) (a_lostAt : Nat) (a_blackAt : Nat) (a_slips : Nat) (a_leftArc : Nat) (a_died : Nat) (a_arcs : Nat) (m_bestSum : Int32) (m_nearest : Int32) (m_nearestTown : Int32) (a_there : Nat) (a_backAt : Nat) (a_sorted : Nat) (a_parts : Nat) (m_seed1 : Int32) (m_darkNow : Int32) (d_r : Nat → Int32) (d_sorted : Nat → Int32) (hp_d_r : RInv d_r) : cI l g yX11_isEven cX11_isEven 6 (some .boolean) 1 21 0 0 [.ref h0, .int p0] [(cO11_i1r1i10r1i2r5i2r12i3r4i2 h0 m_thrown a_tape m_taped m_size m_at m_end m_token m_whole m_nameSize m_fault m_place m_trouble a_letters m_failed m_hasHouse a_r a_fresh a_st a_undone a_kept m_undos m_images a_from a_begin a_motor a_change a_startFrame a_changeFrame a_lostAt a_blackAt a_slips a_leftArc a_died a_arcs m_bestSum m_nearest m_nearestTown a_there a_backAt a_sorted a_parts m_seed1 m_darkNow), (cAI g a_r 311 d_r), (cAI g a_sorted 8 d_sorted)] (fun r w => IV r 0 1 ∧ w = [(cO11_i1r1i10r1i2r5i2r12i3r4i2 h0 m_thrown a_tape m_taped m_size m_at m_end m_token m_whole m_nameSize m_fault m_place m_trouble a_letters m_failed m_hasHouse a_r a_fresh a_st a_undone a_kept m_undos m_images a_from a_begin a_motor a_change a_startFrame a_changeFrame a_lostAt a_blackAt a_slips a_leftArc a_died a_arcs m_bestSum m_nearest m_nearestTown a_there a_backAt a_sorted a_parts m_seed1 m_darkNow), (cAI g a_r 311 d_r), (cAI g a_sorted 8 d_sorted)]) := by
  refine cI.of (by decide) (Nat.le_of_ble_eq_true rfl) ?_
  intro p e s m args below meth c A X hr hi
  refine k_lveq [(0, .ref h0), (1, .int p0)] rfl ?_
  refine k_iconst (v := 1) X dX11_isEven_0 (by decide) ?_
  refine k_istore_n [(2, .int 1), (0, .ref h0), (1, .int p0)] X dX11_isEven_1 (by decide) rfl ?_
  refine k_iconst (v := 0) X dX11_isEven_2 (by decide) ?_
  refine k_istore_n [(3, .int 0), (2, .int 1), (0, .ref h0), (1, .int p0)] X dX11_isEven_3 (by decide) rfl ?_
  refine (fun hL : ∀ (nn_5 : Nat) (u_1 : Int32) (u_3 : Int32), (2147483647 - u_3.toInt).toNat = nn_5 → (IV u_1 0 1) → (IV u_3 0 8) → Wk p l e _ s m args below meth c _ A g _ _ _ [(cO11_i1r1i10r1i2r5i2r12i3r4i2 h0 m_thrown a_tape m_taped m_size m_at m_end m_token m_whole m_nameSize m_fault m_place m_trouble a_letters m_failed m_hasHouse a_r a_fresh a_st a_undone a_kept m_undos m_images a_from a_begin a_motor a_change a_startFrame a_changeFrame a_lostAt a_blackAt a_slips a_leftArc a_died a_arcs m_bestSum m_nearest m_nearestTown a_there a_backAt a_sorted a_parts m_seed1 m_darkNow), (cAI g a_r 311 d_r), (cAI g a_sorted 8 d_sorted)] [(3, .int u_3), (2, .int u_1), (0, .ref h0), (1, .int p0)] 4 [] => hL _ 1 0 rfl (iv_w (show IV 1 1 1 from (by decide)) (by decide) (by decide)) (iv_w (show IV 0 0 0 from (by decide)) (by decide) (by decide))) ?_
  refine fun nn_5 => Nat.strongRecOn nn_5 (fun nn_5 ih_7 => ?_)
  intro u_1 u_3 hm_6 hv_2 hv_4
  refine k_iload_n X dX11_isEven_4 0 rfl ?_
  refine k_aload_n X dX11_isEven_5 2 rfl ?_
  refine k_get (ci := 11) X inlX11 rfl 15 (by decide) dX11_isEven_6 mw170 0 rfl rfl ?_
  refine k_bipush (v := 6) X dX11_isEven_9 (by decide) ?_
  refine k_iald X dX11_isEven_11 1 rfl (by unfold vp_in; decide) ?_
  refine k_nm (fun z_8 ez_8 => ?_)
  have i_9 : z_8.toInt = (d_r 6).toInt := by rw [ez_8]; rfl
  have iv_10 : IV z_8 0 8 := rb_6 ez_8 hp_d_r
  refine k_ic_ge 106 X dX11_isEven_12 (by decide) (fun h_11 => ?_) (fun h_11 => ?_)
  · skip
    have j_12 : z_8.toInt ≤ u_3.toInt := iv_le h_11
    refine k_iload_n X dX11_isEven_106 1 rfl ?_
    exact k_zret X hr (zn_b (iv_w hv_2 (by decide) (by decide))) dX11_isEven_107 (Nat.le_of_ble_eq_true rfl) (Nat.le_of_ble_eq_true rfl) [0, 1, 2] (by decide) rfl rfl ⟨(iv_w hv_2 (by decide) (by decide)), rfl⟩
  · skip
    have j_13 : u_3.toInt < z_8.toInt := iv_nle h_11
    have iv_14 : IV u_3 0 7 := iv_ltL (iv_nle h_11) hv_4 iv_10 (by decide)
    have iv_15 : IV z_8 1 8 := iv_ltR (iv_nle h_11) hv_4 iv_10 (by decide)
    refine k_iconst (v := 0) X dX11_isEven_15 (by decide) ?_
    refine k_istore [(4, .int 0), (3, .int u_3), (2, .int u_1), (0, .ref h0), (1, .int p0)] X dX11_isEven_16 (by decide) rfl ?_
    refine k_iconst (v := 0) X dX11_isEven_18 (by decide) ?_
    refine k_istore [(5, .int 0), (4, .int 0), (3, .int u_3), (2, .int u_1), (0, .ref h0), (1, .int p0)] X dX11_isEven_19 (by decide) rfl ?_
    refine (fun hL : ∀ (nn_19 : Nat) (u_16 : Int32) (u_17 : Int32), (2147483647 - u_17.toInt).toNat = nn_19 → (IV u_17 0 8) → Wk p l e _ s m args below meth c _ A g _ _ _ [(cO11_i1r1i10r1i2r5i2r12i3r4i2 h0 m_thrown a_tape m_taped m_size m_at m_end m_token m_whole m_nameSize m_fault m_place m_trouble a_letters m_failed m_hasHouse a_r a_fresh a_st a_undone a_kept m_undos m_images a_from a_begin a_motor a_change a_startFrame a_changeFrame a_lostAt a_blackAt a_slips a_leftArc a_died a_arcs m_bestSum m_nearest m_nearestTown a_there a_backAt a_sorted a_parts m_seed1 m_darkNow), (cAI g a_r 311 d_r), (cAI g a_sorted 8 d_sorted)] [(5, .int u_17), (4, .int u_16), (3, .int u_3), (2, .int u_1), (0, .ref h0), (1, .int p0)] 21 [] => hL _ 0 0 rfl (iv_w (show IV 0 0 0 from (by decide)) (by decide) (by decide))) ?_
    refine fun nn_19 => Nat.strongRecOn nn_19 (fun nn_19 ih_21 => ?_)
    intro u_16 u_17 hm_20 hv_18
    refine k_iload X dX11_isEven_21 0 rfl ?_
    refine k_aload_n X dX11_isEven_23 4 rfl ?_
    refine k_get (ci := 11) X inlX11 rfl 15 (by decide) dX11_isEven_24 mw170 0 rfl rfl ?_
    refine k_bipush (v := 12) X dX11_isEven_27 (by decide) ?_
    refine k_iald X dX11_isEven_29 1 rfl (by unfold vp_in; decide) ?_
    refine k_nm (fun z_22 ez_22 => ?_)
    have i_23 : z_22.toInt = (d_r 12).toInt := by rw [ez_22]; rfl
    have iv_24 : IV z_22 0 8 := rb_12 ez_22 hp_d_r
    refine k_ic_ge 85 X dX11_isEven_30 (by decide) (fun h_25 => ?_) (fun h_25 => ?_)
    · skip
      have j_26 : z_22.toInt ≤ u_17.toInt := iv_le h_25
      refine k_iload_n X dX11_isEven_85 3 rfl ?_
      refine k_if_eq 98 X dX11_isEven_86 (by decide) (fun h_27 => ?_) (fun h_27 => ?_)
      · skip
        have iv_28 : IV u_1 0 0 := iv_meet hv_2 (iv_e h_27 (show IV 0 0 0 from (by decide))) (by decide) (by decide)
        refine k_iconst (v := 0) X dX11_isEven_98 (by decide) ?_
        refine k_istore_n [(2, .int 0), (5, .int u_17), (4, .int u_16), (3, .int u_3), (0, .ref h0), (1, .int p0)] X dX11_isEven_99 (by decide) rfl ?_
        obtain ⟨z_29, ez_29⟩ : ∃ y : Int32, u_3 + Int32.ofInt 1 = y := ⟨_, rfl⟩
        refine k_iinc z_29 [(3, .int z_29), (2, .int 0), (5, .int u_17), (4, .int u_16), (0, .ref h0), (1, .int p0)] 3 X dX11_isEven_100 rfl ez_29 (by decide) rfl ?_
        have i_30 : z_29.toInt = u_3.toInt + 1 := in_inc ez_29 (by decide) iv_14 (by decide) (by decide)
        have iv_31 : IV z_29 1 8 := iz1 i_30 iv_14 (by decide) (by decide)
        refine k_goto 4 X dX11_isEven_103 (by decide) ?_
        refine k_lv [(3, .int z_29), (2, .int 0), (0, .ref h0), (1, .int p0)] [0, 1, 4, 5] rfl ?_
        exact ih_7 _ (by omega) 0 z_29 rfl (iv_w (show IV 0 0 0 from (by decide)) (by decide) (by decide)) (iv_w iv_31 (by decide) (by decide))
      · skip
        have iv_32 : IV u_1 1 1 := iv_neL h_27 hv_2 (show IV 0 0 0 from (by decide)) (by decide)
        refine k_iload X dX11_isEven_89 1 rfl ?_
        refine k_if_ne 98 X dX11_isEven_91 (by decide) (fun h_33 => ?_) (fun h_33 => ?_)
        · skip
          refine k_iconst (v := 0) X dX11_isEven_98 (by decide) ?_
          refine k_istore_n [(2, .int 0), (5, .int u_17), (4, .int u_16), (3, .int u_3), (0, .ref h0), (1, .int p0)] X dX11_isEven_99 (by decide) rfl ?_
          obtain ⟨z_34, ez_34⟩ : ∃ y : Int32, u_3 + Int32.ofInt 1 = y := ⟨_, rfl⟩
          refine k_iinc z_34 [(3, .int z_34), (2, .int 0), (5, .int u_17), (4, .int u_16), (0, .ref h0), (1, .int p0)] 3 X dX11_isEven_100 rfl ez_34 (by decide) rfl ?_
          have i_35 : z_34.toInt = u_3.toInt + 1 := in_inc ez_34 (by decide) iv_14 (by decide) (by decide)
          have iv_36 : IV z_34 1 8 := iz1 i_35 iv_14 (by decide) (by decide)
          refine k_goto 4 X dX11_isEven_103 (by decide) ?_
          refine k_lv [(3, .int z_34), (2, .int 0), (0, .ref h0), (1, .int p0)] [0, 1, 4, 5] rfl ?_
          exact ih_7 _ (by omega) 0 z_34 rfl (iv_w (show IV 0 0 0 from (by decide)) (by decide) (by decide)) (iv_w iv_36 (by decide) (by decide))
        · skip
          have iv_37 : IV u_16 0 0 := iv_meet (iv_any u_16) (iv_e h_33 (show IV 0 0 0 from (by decide))) (by decide) (by decide)
          refine k_iconst (v := 1) X dX11_isEven_94 (by decide) ?_
          refine k_goto 99 X dX11_isEven_95 (by decide) ?_
          refine k_istore_n [(2, .int 1), (5, .int u_17), (4, .int u_16), (3, .int u_3), (0, .ref h0), (1, .int p0)] X dX11_isEven_99 (by decide) rfl ?_
          obtain ⟨z_38, ez_38⟩ : ∃ y : Int32, u_3 + Int32.ofInt 1 = y := ⟨_, rfl⟩
          refine k_iinc z_38 [(3, .int z_38), (2, .int 1), (5, .int u_17), (4, .int u_16), (0, .ref h0), (1, .int p0)] 3 X dX11_isEven_100 rfl ez_38 (by decide) rfl ?_
          have i_39 : z_38.toInt = u_3.toInt + 1 := in_inc ez_38 (by decide) iv_14 (by decide) (by decide)
          have iv_40 : IV z_38 1 8 := iz1 i_39 iv_14 (by decide) (by decide)
          refine k_goto 4 X dX11_isEven_103 (by decide) ?_
          refine k_lv [(3, .int z_38), (2, .int 1), (0, .ref h0), (1, .int p0)] [0, 1, 4, 5] rfl ?_
          exact ih_7 _ (by omega) 1 z_38 rfl (iv_w (show IV 1 1 1 from (by decide)) (by decide) (by decide)) (iv_w iv_40 (by decide) (by decide))
    · skip
      have j_41 : u_17.toInt < z_22.toInt := iv_nle h_25
      have iv_42 : IV u_17 0 7 := iv_ltL (iv_nle h_25) hv_18 iv_24 (by decide)
      have iv_43 : IV z_22 1 8 := iv_ltR (iv_nle h_25) hv_18 iv_24 (by decide)
      refine k_iload_n X dX11_isEven_33 5 rfl ?_
      refine k_iload X dX11_isEven_34 0 rfl ?_
      refine k_callSI (n := 2) (As := [.int p0, .int u_17]) (st := []) X [] [(cO11_i1r1i10r1i2r5i2r12i3r4i2 h0 m_thrown a_tape m_taped m_size m_at m_end m_token m_whole m_nameSize m_fault m_place m_trouble a_letters m_failed m_hasHouse a_r a_fresh a_st a_undone a_kept m_undos m_images a_from a_begin a_motor a_change a_startFrame a_changeFrame a_lostAt a_blackAt a_slips a_leftArc a_died a_arcs m_bestSum m_nearest m_nearestTown a_there a_backAt a_sorted a_parts m_seed1 m_darkNow), (cAI g a_r 311 d_r), (cAI g a_sorted 8 d_sorted)] [] [0, 1, 2] (m_hasBit l g p0 u_17) dX11_isEven_36 mw686 mw687 mw5 mw688 yk_yX11_hasBit_2 rfl (Nat.le_of_ble_eq_true rfl) (Nat.le_of_ble_eq_true rfl) (Nat.le_of_ble_eq_true rfl) (Nat.le_of_ble_eq_true rfl) (Nat.le_of_ble_eq_true rfl) rfl rfl (by decide) rfl (by decide) (by decide) ?_
      rintro r_44 w ⟨iv_45, rfl⟩
      refine k_ws [(cO11_i1r1i10r1i2r5i2r12i3r4i2 h0 m_thrown a_tape m_taped m_size m_at m_end m_token m_whole m_nameSize m_fault m_place m_trouble a_letters m_failed m_hasHouse a_r a_fresh a_st a_undone a_kept m_undos m_images a_from a_begin a_motor a_change a_startFrame a_changeFrame a_lostAt a_blackAt a_slips a_leftArc a_died a_arcs m_bestSum m_nearest m_nearestTown a_there a_backAt a_sorted a_parts m_seed1 m_darkNow), (cAI g a_r 311 d_r), (cAI g a_sorted 8 d_sorted)] rfl ?_
      refine k_if_eq 79 X dX11_isEven_39 (by decide) (fun h_46 => ?_) (fun h_46 => ?_)
      · skip
        have iv_47 : IV r_44 0 0 := iv_meet iv_45 (iv_e h_46 (show IV 0 0 0 from (by decide))) (by decide) (by decide)
        obtain ⟨z_48, ez_48⟩ : ∃ y : Int32, u_17 + Int32.ofInt 1 = y := ⟨_, rfl⟩
        refine k_iinc z_48 [(5, .int z_48), (4, .int u_16), (3, .int u_3), (2, .int u_1), (0, .ref h0), (1, .int p0)] 0 X dX11_isEven_79 rfl ez_48 (by decide) rfl ?_
        have i_49 : z_48.toInt = u_17.toInt + 1 := in_inc ez_48 (by decide) iv_42 (by decide) (by decide)
        have iv_50 : IV z_48 1 8 := iz1 i_49 iv_42 (by decide) (by decide)
        refine k_goto 21 X dX11_isEven_82 (by decide) ?_
        exact ih_21 _ (by omega) u_16 z_48 rfl (iv_w iv_50 (by decide) (by decide))
      · skip
        have iv_51 : IV r_44 1 1 := iv_neL h_46 iv_45 (show IV 0 0 0 from (by decide)) (by decide)
        refine k_iload X dX11_isEven_42 1 rfl ?_
        refine k_aload_n X dX11_isEven_44 4 rfl ?_
        refine k_iload X dX11_isEven_45 0 rfl ?_
        refine k_callVI (n := 1) (As := [.int u_17]) (st := [.int u_16]) X [(cO11_i1r1i10r1i2r5i2r12i3r4i2 h0 m_thrown a_tape m_taped m_size m_at m_end m_token m_whole m_nameSize m_fault m_place m_trouble a_letters m_failed m_hasHouse a_r a_fresh a_st a_undone a_kept m_undos m_images a_from a_begin a_motor a_change a_startFrame a_changeFrame a_lostAt a_blackAt a_slips a_leftArc a_died a_arcs m_bestSum m_nearest m_nearestTown a_there a_backAt a_sorted a_parts m_seed1 m_darkNow), (cAI g a_r 311 d_r)] [(cAI g a_sorted 8 d_sorted)] [0, 1] [2] (m_reelAt l g h0 u_17 m_thrown a_tape m_taped m_size m_at m_end m_token m_whole m_nameSize m_fault m_place m_trouble a_letters m_failed m_hasHouse a_r a_fresh a_st a_undone a_kept m_undos m_images a_from a_begin a_motor a_change a_startFrame a_changeFrame a_lostAt a_blackAt a_slips a_leftArc a_died a_arcs m_bestSum m_nearest m_nearestTown a_there a_backAt a_sorted a_parts m_seed1 m_darkNow d_r (iv_w iv_42 (by decide) (by decide)) hp_d_r) dX11_isEven_47 mw723 mw724 mw725 mw5 mw726 rfl 11 rfl rfl 0 _ rfl yk_yX11_reelAt_1 rfl (Nat.le_of_ble_eq_true rfl) (Nat.le_of_ble_eq_true rfl) (Nat.le_of_ble_eq_true rfl) (Nat.le_of_ble_eq_true rfl) (Nat.le_of_ble_eq_true rfl) rfl rfl (by decide) rfl (by decide) (by decide) ?_
        rintro r_52 w ⟨iv_53, rfl⟩
        refine k_ws [(cAI g a_sorted 8 d_sorted), (cO11_i1r1i10r1i2r5i2r12i3r4i2 h0 m_thrown a_tape m_taped m_size m_at m_end m_token m_whole m_nameSize m_fault m_place m_trouble a_letters m_failed m_hasHouse a_r a_fresh a_st a_undone a_kept m_undos m_images a_from a_begin a_motor a_change a_startFrame a_changeFrame a_lostAt a_blackAt a_slips a_leftArc a_died a_arcs m_bestSum m_nearest m_nearestTown a_there a_backAt a_sorted a_parts m_seed1 m_darkNow), (cAI g a_r 311 d_r)] rfl ?_
        refine k_iload_n X dX11_isEven_50 2 rfl ?_
        refine k_ic_ne 58 X dX11_isEven_51 (by decide) (fun h_54 => ?_) (fun h_54 => ?_)
        · skip
          refine k_iconst (v := 0) X dX11_isEven_58 (by decide) ?_
          refine k_aload_n X dX11_isEven_59 4 rfl ?_
          refine k_get (ci := 11) X inlX11 rfl 39 (by decide) dX11_isEven_60 mw189 1 rfl rfl ?_
          refine k_iload X dX11_isEven_63 0 rfl ?_
          refine k_iald X dX11_isEven_65 0 rfl (iv_in iv_42 (by decide) (by decide)) ?_
          refine k_nm (fun z_55 ez_55 => ?_)
          refine k_iload_n X dX11_isEven_66 2 rfl ?_
          refine k_ic_ne 74 X dX11_isEven_67 (by decide) (fun h_56 => ?_) (fun h_56 => ?_)
          · skip
            refine k_iconst (v := 0) X dX11_isEven_74 (by decide) ?_
            refine k_isub X dX11_isEven_75 ?_
            refine k_to (0) (by decide) ?_
            refine k_iadd X dX11_isEven_76 ?_
            refine k_nm (fun z_57 ez_57 => ?_)
            have i_58 : z_57.toInt = u_16.toInt + 0 := in_add ez_57 (iv_any u_16) (show IV 0 0 0 from (by decide)) (by decide) (by decide)
            have iv_59 : IV z_57 (-2147483648) 2147483647 := by have := (iv_any u_16); have := (show IV 0 0 0 from (by decide)); rw [IV, i_58]; omega
            refine k_istore [(4, .int z_57), (5, .int u_17), (3, .int u_3), (2, .int u_1), (0, .ref h0), (1, .int p0)] X dX11_isEven_77 (by decide) rfl ?_
            obtain ⟨z_60, ez_60⟩ : ∃ y : Int32, u_17 + Int32.ofInt 1 = y := ⟨_, rfl⟩
            refine k_iinc z_60 [(5, .int z_60), (4, .int z_57), (3, .int u_3), (2, .int u_1), (0, .ref h0), (1, .int p0)] 1 X dX11_isEven_79 rfl ez_60 (by decide) rfl ?_
            have i_61 : z_60.toInt = u_17.toInt + 1 := in_inc ez_60 (by decide) iv_42 (by decide) (by decide)
            have iv_62 : IV z_60 1 8 := iz1 i_61 iv_42 (by decide) (by decide)
            refine k_goto 21 X dX11_isEven_82 (by decide) ?_
            refine k_sub [(cO11_i1r1i10r1i2r5i2r12i3r4i2 h0 m_thrown a_tape m_taped m_size m_at m_end m_token m_whole m_nameSize m_fault m_place m_trouble a_letters m_failed m_hasHouse a_r a_fresh a_st a_undone a_kept m_undos m_images a_from a_begin a_motor a_change a_startFrame a_changeFrame a_lostAt a_blackAt a_slips a_leftArc a_died a_arcs m_bestSum m_nearest m_nearestTown a_there a_backAt a_sorted a_parts m_seed1 m_darkNow), (cAI g a_r 311 d_r), (cAI g a_sorted 8 d_sorted)] [1, 2, 0] rfl (by decide) rfl ?_
            exact ih_21 _ (by omega) z_57 z_60 rfl (iv_w iv_62 (by decide) (by decide))
          · skip
            have iv_63 : IV z_55 0 7 := iv_meet (iv_any z_55) (iv_e h_56 iv_14) (by decide) (by decide)
            refine k_iconst (v := 1) X dX11_isEven_70 (by decide) ?_
            refine k_goto 75 X dX11_isEven_71 (by decide) ?_
            refine k_isub X dX11_isEven_75 ?_
            refine k_to (-1) (by decide) ?_
            refine k_iadd X dX11_isEven_76 ?_
            refine k_nm (fun z_64 ez_64 => ?_)
            refine k_istore [(4, .int z_64), (5, .int u_17), (3, .int u_3), (2, .int u_1), (0, .ref h0), (1, .int p0)] X dX11_isEven_77 (by decide) rfl ?_
            obtain ⟨z_66, ez_66⟩ : ∃ y : Int32, u_17 + Int32.ofInt 1 = y := ⟨_, rfl⟩
            refine k_iinc z_66 [(5, .int z_66), (4, .int z_64), (3, .int u_3), (2, .int u_1), (0, .ref h0), (1, .int p0)] 1 X dX11_isEven_79 rfl ez_66 (by decide) rfl ?_
            have i_67 : z_66.toInt = u_17.toInt + 1 := in_inc ez_66 (by decide) iv_42 (by decide) (by decide)
            have iv_68 : IV z_66 1 8 := iz1 i_67 iv_42 (by decide) (by decide)
            refine k_goto 21 X dX11_isEven_82 (by decide) ?_
            refine k_sub [(cO11_i1r1i10r1i2r5i2r12i3r4i2 h0 m_thrown a_tape m_taped m_size m_at m_end m_token m_whole m_nameSize m_fault m_place m_trouble a_letters m_failed m_hasHouse a_r a_fresh a_st a_undone a_kept m_undos m_images a_from a_begin a_motor a_change a_startFrame a_changeFrame a_lostAt a_blackAt a_slips a_leftArc a_died a_arcs m_bestSum m_nearest m_nearestTown a_there a_backAt a_sorted a_parts m_seed1 m_darkNow), (cAI g a_r 311 d_r), (cAI g a_sorted 8 d_sorted)] [1, 2, 0] rfl (by decide) rfl ?_
            exact ih_21 _ (by omega) z_64 z_66 rfl (iv_w iv_68 (by decide) (by decide))
        · skip
          refine k_iconst (v := 1) X dX11_isEven_54 (by decide) ?_
          refine k_goto 59 X dX11_isEven_55 (by decide) ?_
          refine k_aload_n X dX11_isEven_59 4 rfl ?_
          refine k_get (ci := 11) X inlX11 rfl 39 (by decide) dX11_isEven_60 mw189 1 rfl rfl ?_
          refine k_iload X dX11_isEven_63 0 rfl ?_
          refine k_iald X dX11_isEven_65 0 rfl (iv_in iv_42 (by decide) (by decide)) ?_
          refine k_nm (fun z_69 ez_69 => ?_)
          refine k_iload_n X dX11_isEven_66 2 rfl ?_
          refine k_ic_ne 74 X dX11_isEven_67 (by decide) (fun h_70 => ?_) (fun h_70 => ?_)
          · skip
            refine k_iconst (v := 0) X dX11_isEven_74 (by decide) ?_
            refine k_isub X dX11_isEven_75 ?_
            refine k_to (1) (by decide) ?_
            refine k_iadd X dX11_isEven_76 ?_
            refine k_nm (fun z_71 ez_71 => ?_)
            refine k_istore [(4, .int z_71), (5, .int u_17), (3, .int u_3), (2, .int u_1), (0, .ref h0), (1, .int p0)] X dX11_isEven_77 (by decide) rfl ?_
            obtain ⟨z_73, ez_73⟩ : ∃ y : Int32, u_17 + Int32.ofInt 1 = y := ⟨_, rfl⟩
            refine k_iinc z_73 [(5, .int z_73), (4, .int z_71), (3, .int u_3), (2, .int u_1), (0, .ref h0), (1, .int p0)] 1 X dX11_isEven_79 rfl ez_73 (by decide) rfl ?_
            have i_74 : z_73.toInt = u_17.toInt + 1 := in_inc ez_73 (by decide) iv_42 (by decide) (by decide)
            have iv_75 : IV z_73 1 8 := iz1 i_74 iv_42 (by decide) (by decide)
            refine k_goto 21 X dX11_isEven_82 (by decide) ?_
            refine k_sub [(cO11_i1r1i10r1i2r5i2r12i3r4i2 h0 m_thrown a_tape m_taped m_size m_at m_end m_token m_whole m_nameSize m_fault m_place m_trouble a_letters m_failed m_hasHouse a_r a_fresh a_st a_undone a_kept m_undos m_images a_from a_begin a_motor a_change a_startFrame a_changeFrame a_lostAt a_blackAt a_slips a_leftArc a_died a_arcs m_bestSum m_nearest m_nearestTown a_there a_backAt a_sorted a_parts m_seed1 m_darkNow), (cAI g a_r 311 d_r), (cAI g a_sorted 8 d_sorted)] [1, 2, 0] rfl (by decide) rfl ?_
            exact ih_21 _ (by omega) z_71 z_73 rfl (iv_w iv_75 (by decide) (by decide))
          · skip
            have iv_76 : IV z_69 0 7 := iv_meet (iv_any z_69) (iv_e h_70 iv_14) (by decide) (by decide)
            refine k_iconst (v := 1) X dX11_isEven_70 (by decide) ?_
            refine k_goto 75 X dX11_isEven_71 (by decide) ?_
            refine k_isub X dX11_isEven_75 ?_
            refine k_to (0) (by decide) ?_
            refine k_iadd X dX11_isEven_76 ?_
            refine k_nm (fun z_77 ez_77 => ?_)
            have i_78 : z_77.toInt = u_16.toInt + 0 := in_add ez_77 (iv_any u_16) (show IV 0 0 0 from (by decide)) (by decide) (by decide)
            have iv_79 : IV z_77 (-2147483648) 2147483647 := by have := (iv_any u_16); have := (show IV 0 0 0 from (by decide)); rw [IV, i_78]; omega
            refine k_istore [(4, .int z_77), (5, .int u_17), (3, .int u_3), (2, .int u_1), (0, .ref h0), (1, .int p0)] X dX11_isEven_77 (by decide) rfl ?_
            obtain ⟨z_80, ez_80⟩ : ∃ y : Int32, u_17 + Int32.ofInt 1 = y := ⟨_, rfl⟩
            refine k_iinc z_80 [(5, .int z_80), (4, .int z_77), (3, .int u_3), (2, .int u_1), (0, .ref h0), (1, .int p0)] 1 X dX11_isEven_79 rfl ez_80 (by decide) rfl ?_
            have i_81 : z_80.toInt = u_17.toInt + 1 := in_inc ez_80 (by decide) iv_42 (by decide) (by decide)
            have iv_82 : IV z_80 1 8 := iz1 i_81 iv_42 (by decide) (by decide)
            refine k_goto 21 X dX11_isEven_82 (by decide) ?_
            refine k_sub [(cO11_i1r1i10r1i2r5i2r12i3r4i2 h0 m_thrown a_tape m_taped m_size m_at m_end m_token m_whole m_nameSize m_fault m_place m_trouble a_letters m_failed m_hasHouse a_r a_fresh a_st a_undone a_kept m_undos m_images a_from a_begin a_motor a_change a_startFrame a_changeFrame a_lostAt a_blackAt a_slips a_leftArc a_died a_arcs m_bestSum m_nearest m_nearestTown a_there a_backAt a_sorted a_parts m_seed1 m_darkNow), (cAI g a_r 311 d_r), (cAI g a_sorted 8 d_sorted)] [1, 2, 0] rfl (by decide) rfl ?_
            exact ih_21 _ (by omega) z_77 z_80 rfl (iv_w iv_82 (by decide) (by decide))

theorem dX11_exchanges_0 : decode cX11_exchanges 0 = .ok (.aload_n 0, 1) := dk_42 rfl
theorem dX11_exchanges_1 : decode cX11_exchanges 1 = .ok (.invokevirtual 200, 3) := dk_182 rfl rfl rfl rfl
theorem dX11_exchanges_4 : decode cX11_exchanges 4 = .ok (.aload_n 0, 1) := dk_42 rfl
theorem dX11_exchanges_5 : decode cX11_exchanges 5 = .ok (.getfield 213, 3) := dk_180 rfl rfl rfl rfl
theorem dX11_exchanges_8 : decode cX11_exchanges 8 = .ok (.ifCond .ne 9, 3) := dk_154 rfl rfl rfl (by decide)
theorem dX11_exchanges_11 : decode cX11_exchanges 11 = .ok (.aload_n 0, 1) := dk_42 rfl
theorem dX11_exchanges_12 : decode cX11_exchanges 12 = .ok (.iconst 1, 1) := dk_4 rfl
theorem dX11_exchanges_13 : decode cX11_exchanges 13 = .ok (.invokevirtual 203, 3) := dk_182 rfl rfl rfl rfl
theorem dX11_exchanges_16 : decode cX11_exchanges 16 = .ok (.ireturn, 1) := dk_172 rfl
theorem dX11_exchanges_17 : decode cX11_exchanges 17 = .ok (.aload_n 0, 1) := dk_42 rfl
theorem dX11_exchanges_18 : decode cX11_exchanges 18 = .ok (.invokevirtual 452, 3) := dk_182 rfl rfl rfl rfl
theorem dX11_exchanges_21 : decode cX11_exchanges 21 = .ok (.iconst 1, 1) := dk_4 rfl
theorem dX11_exchanges_22 : decode cX11_exchanges 22 = .ok (.aload_n 0, 1) := dk_42 rfl
theorem dX11_exchanges_23 : decode cX11_exchanges 23 = .ok (.getfield 20, 3) := dk_180 rfl rfl rfl rfl
theorem dX11_exchanges_26 : decode cX11_exchanges 26 = .ok (.bipush 12, 2) := dk_16 rfl rfl (by decide)
theorem dX11_exchanges_28 : decode cX11_exchanges 28 = .ok (.iaload, 1) := dk_46 rfl
theorem dX11_exchanges_29 : decode cX11_exchanges 29 = .ok (.ishl, 1) := dk_120 rfl
theorem dX11_exchanges_30 : decode cX11_exchanges 30 = .ok (.iconst 1, 1) := dk_4 rfl
theorem dX11_exchanges_31 : decode cX11_exchanges 31 = .ok (.isub, 1) := dk_100 rfl
theorem dX11_exchanges_32 : decode cX11_exchanges 32 = .ok (.istore_n 1, 1) := dk_60 rfl
theorem dX11_exchanges_33 : decode cX11_exchanges 33 = .ok (.aload_n 0, 1) := dk_42 rfl
theorem dX11_exchanges_34 : decode cX11_exchanges 34 = .ok (.getfield 80, 3) := dk_180 rfl rfl rfl rfl
theorem dX11_exchanges_37 : decode cX11_exchanges 37 = .ok (.iconst 0, 1) := dk_3 rfl
theorem dX11_exchanges_38 : decode cX11_exchanges 38 = .ok (.iconst 0, 1) := dk_3 rfl
theorem dX11_exchanges_39 : decode cX11_exchanges 39 = .ok (.iastore, 1) := dk_79 rfl
theorem dX11_exchanges_40 : decode cX11_exchanges 40 = .ok (.iconst 1, 1) := dk_4 rfl
theorem dX11_exchanges_41 : decode cX11_exchanges 41 = .ok (.istore_n 2, 1) := dk_61 rfl
theorem dX11_exchanges_42 : decode cX11_exchanges 42 = .ok (.iload_n 2, 1) := dk_28 rfl
theorem dX11_exchanges_43 : decode cX11_exchanges 43 = .ok (.iload_n 1, 1) := dk_27 rfl
theorem dX11_exchanges_44 : decode cX11_exchanges 44 = .ok (.if_icmp .gt 80, 3) := dk_163 rfl rfl rfl (by decide)
theorem dX11_exchanges_47 : decode cX11_exchanges 47 = .ok (.iconst 0, 1) := dk_3 rfl
theorem dX11_exchanges_48 : decode cX11_exchanges 48 = .ok (.istore_n 3, 1) := dk_62 rfl
theorem dX11_exchanges_49 : decode cX11_exchanges 49 = .ok (.iconst 0, 1) := dk_3 rfl
theorem dX11_exchanges_50 : decode cX11_exchanges 50 = .ok (.istore 4, 2) := dk_54 rfl rfl rfl
theorem dX11_exchanges_52 : decode cX11_exchanges 52 = .ok (.iload 4, 2) := dk_21 rfl rfl rfl
theorem dX11_exchanges_54 : decode cX11_exchanges 54 = .ok (.aload_n 0, 1) := dk_42 rfl
theorem dX11_exchanges_55 : decode cX11_exchanges 55 = .ok (.getfield 20, 3) := dk_180 rfl rfl rfl rfl
theorem dX11_exchanges_58 : decode cX11_exchanges 58 = .ok (.bipush 12, 2) := dk_16 rfl rfl (by decide)
theorem dX11_exchanges_60 : decode cX11_exchanges 60 = .ok (.iaload, 1) := dk_46 rfl
theorem dX11_exchanges_61 : decode cX11_exchanges 61 = .ok (.if_icmp .ge 36, 3) := dk_162 rfl rfl rfl (by decide)
theorem dX11_exchanges_64 : decode cX11_exchanges 64 = .ok (.iload_n 2, 1) := dk_28 rfl
theorem dX11_exchanges_65 : decode cX11_exchanges 65 = .ok (.iload 4, 2) := dk_21 rfl rfl rfl
theorem dX11_exchanges_67 : decode cX11_exchanges 67 = .ok (.invokestatic 320, 3) := dk_184 rfl rfl rfl rfl
theorem dX11_exchanges_70 : decode cX11_exchanges 70 = .ok (.ifCond .eq 21, 3) := dk_153 rfl rfl rfl (by decide)
theorem dX11_exchanges_73 : decode cX11_exchanges 73 = .ok (.iload_n 3, 1) := dk_29 rfl
theorem dX11_exchanges_74 : decode cX11_exchanges 74 = .ok (.aload_n 0, 1) := dk_42 rfl
theorem dX11_exchanges_75 : decode cX11_exchanges 75 = .ok (.getfield 80, 3) := dk_180 rfl rfl rfl rfl
theorem dX11_exchanges_78 : decode cX11_exchanges 78 = .ok (.iload_n 2, 1) := dk_28 rfl
theorem dX11_exchanges_79 : decode cX11_exchanges 79 = .ok (.iconst 1, 1) := dk_4 rfl
theorem dX11_exchanges_80 : decode cX11_exchanges 80 = .ok (.iload 4, 2) := dk_21 rfl rfl rfl
theorem dX11_exchanges_82 : decode cX11_exchanges 82 = .ok (.ishl, 1) := dk_120 rfl
theorem dX11_exchanges_83 : decode cX11_exchanges 83 = .ok (.iconst (-1), 1) := dk_2 rfl
theorem dX11_exchanges_84 : decode cX11_exchanges 84 = .ok (.ixor, 1) := dk_130 rfl
theorem dX11_exchanges_85 : decode cX11_exchanges 85 = .ok (.iand, 1) := dk_126 rfl
theorem dX11_exchanges_86 : decode cX11_exchanges 86 = .ok (.iaload, 1) := dk_46 rfl
theorem dX11_exchanges_87 : decode cX11_exchanges 87 = .ok (.invokestatic 351, 3) := dk_184 rfl rfl rfl rfl
theorem dX11_exchanges_90 : decode cX11_exchanges 90 = .ok (.istore_n 3, 1) := dk_62 rfl
theorem dX11_exchanges_91 : decode cX11_exchanges 91 = .ok (.iinc 4 1, 3) := dk_132 rfl rfl rfl rfl (by decide)
theorem dX11_exchanges_94 : decode cX11_exchanges 94 = .ok (.goto (-42), 3) := dk_167 rfl rfl rfl (by decide)
theorem dX11_exchanges_97 : decode cX11_exchanges 97 = .ok (.aload_n 0, 1) := by decide +kernel
theorem dX11_exchanges_98 : decode cX11_exchanges 98 = .ok (.getfield 80, 3) := by decide +kernel
theorem dX11_exchanges_101 : decode cX11_exchanges 101 = .ok (.iload_n 2, 1) := by decide +kernel
theorem dX11_exchanges_102 : decode cX11_exchanges 102 = .ok (.iload_n 3, 1) := by decide +kernel
theorem dX11_exchanges_103 : decode cX11_exchanges 103 = .ok (.aload_n 0, 1) := by decide +kernel
theorem dX11_exchanges_104 : decode cX11_exchanges 104 = .ok (.iload_n 2, 1) := by decide +kernel
theorem dX11_exchanges_105 : decode cX11_exchanges 105 = .ok (.invokevirtual 455, 3) := by decide +kernel
theorem dX11_exchanges_108 : decode cX11_exchanges 108 = .ok (.ifCond .eq 7, 3) := by decide +kernel
theorem dX11_exchanges_111 : decode cX11_exchanges 111 = .ok (.iconst 1, 1) := by decide +kernel
theorem dX11_exchanges_112 : decode cX11_exchanges 112 = .ok (.goto 4, 3) := by decide +kernel
theorem dX11_exchanges_115 : decode cX11_exchanges 115 = .ok (.iconst 0, 1) := by decide +kernel
theorem dX11_exchanges_116 : decode cX11_exchanges 116 = .ok (.iadd, 1) := by decide +kernel
theorem dX11_exchanges_117 : decode cX11_exchanges 117 = .ok (.iastore, 1) := by decide +kernel
theorem dX11_exchanges_118 : decode cX11_exchanges 118 = .ok (.iinc 2 1, 3) := by decide +kernel
theorem dX11_exchanges_121 : decode cX11_exchanges 121 = .ok (.goto (-79), 3) := by decide +kernel
theorem dX11_exchanges_124 : decode cX11_exchanges 124 = .ok (.aload_n 0, 1) := by decide +kernel
theorem dX11_exchanges_125 : decode cX11_exchanges 125 = .ok (.getfield 20, 3) := by decide +kernel
theorem dX11_exchanges_128 : decode cX11_exchanges 128 = .ok (.bipush 12, 2) := by decide +kernel
theorem dX11_exchanges_130 : decode cX11_exchanges 130 = .ok (.iaload, 1) := by decide +kernel
theorem dX11_exchanges_131 : decode cX11_exchanges 131 = .ok (.aload_n 0, 1) := by decide +kernel
theorem dX11_exchanges_132 : decode cX11_exchanges 132 = .ok (.getfield 80, 3) := by decide +kernel
theorem dX11_exchanges_135 : decode cX11_exchanges 135 = .ok (.iload_n 1, 1) := by decide +kernel
theorem dX11_exchanges_136 : decode cX11_exchanges 136 = .ok (.iaload, 1) := by decide +kernel
theorem dX11_exchanges_137 : decode cX11_exchanges 137 = .ok (.isub, 1) := by decide +kernel
theorem dX11_exchanges_138 : decode cX11_exchanges 138 = .ok (.ireturn, 1) := by decide +kernel
set_option maxHeartbeats 4000000 in
set_option maxRecDepth 100000 in
theorem m_exchanges (l : Launch) (g : Gx) (h0 : Nat) (m_thrown : Int32) (a_tape : Nat) (m_taped : Int32) (m_size : Int32) (m_at : Int32) (m_end : Int32) (m_token : Int32) (m_whole : Int32) (m_nameSize : Int32) (m_fault : Int32) (m_place : Int32) (m_trouble : Int32) (a_letters : Nat) (m_failed : Int32) (m_hasHouse : Int32) (a_r : Nat) (a_fresh : Nat) (a_st : Nat) (a_undone : Nat) (a_kept : Nat) (m_undos : Int32) (m_images : Int32) (a_from : Nat) (a_begin : Nat) (a_motor : Nat) (a_change : Nat) (a_startFrame : Nat) (a_changeFrame : Nat) (a_lostAt : Nat) (a_blackAt : Nat) (a_slips : Nat) (a_leftArc : Nat) (a_died : Nat) (a_arcs : Nat) (m_bestSum : Int32) (m_nearest : Int32) (m_nearestTown : Int32) (a_there : Nat) (a_backAt : Nat) (a_sorted : Nat) (a_parts : Nat) (m_seed1 : Int32) (m_darkNow : Int32) (d_r : Nat → Int32) (d_sorted : Nat → Int32) (d_parts : Nat → Int32) (hv_m_hasHouse : IV m_hasHouse 0 1) (hp_d_r : RInv d_r) : cI l g yX11_exchanges cX11_exchanges 5 (some .int) 2 46 0 0 [.ref h0] [(cO11_i1r1i10r1i2r5i2r12i3r4i2 h0 m_thrown a_tape m_taped m_size m_at m_end m_token m_whole m_nameSize m_fault m_place m_trouble a_letters m_failed m_hasHouse a_r a_fresh a_st a_undone a_kept m_undos m_images a_from a_begin a_motor a_change a_startFrame a_changeFrame a_lostAt a_blackAt a_slips a_leftArc a_died a_arcs m_bestSum m_nearest m_nearestTown a_there a_backAt a_sorted a_parts m_seed1 m_darkNow), (cAI g a_r 311 d_r), (cAI g a_sorted 8 d_sorted), (cAI g a_parts 256 d_parts)] (fun r w => ∃ (d_parts2 : Nat → Int32) (d_sorted2 : Nat → Int32) (m_thrown2 : Int32) (m_trouble2 : Int32), w = [(cO11_i1r1i10r1i2r5i2r12i3r4i2 h0 m_thrown2 a_tape m_taped m_size m_at m_end m_token m_whole m_nameSize m_fault m_place m_trouble2 a_letters m_failed m_hasHouse a_r a_fresh a_st a_undone a_kept m_undos m_images a_from a_begin a_motor a_change a_startFrame a_changeFrame a_lostAt a_blackAt a_slips a_leftArc a_died a_arcs m_bestSum m_nearest m_nearestTown a_there a_backAt a_sorted a_parts m_seed1 m_darkNow), (cAI g a_r 311 d_r), (cAI g a_sorted 8 d_sorted2), (cAI g a_parts 256 d_parts2)]) := by
  refine cI.of (by decide) (Nat.le_of_ble_eq_true rfl) ?_
  intro p e s m args below meth c A X hr hi
  refine k_lveq [(0, .ref h0)] rfl ?_
  refine k_aload_n X dX11_exchanges_0 0 rfl ?_
  refine k_callVV (n := 0) (As := []) (st := []) X [(cO11_i1r1i10r1i2r5i2r12i3r4i2 h0 m_thrown a_tape m_taped m_size m_at m_end m_token m_whole m_nameSize m_fault m_place m_trouble a_letters m_failed m_hasHouse a_r a_fresh a_st a_undone a_kept m_undos m_images a_from a_begin a_motor a_change a_startFrame a_changeFrame a_lostAt a_blackAt a_slips a_leftArc a_died a_arcs m_bestSum m_nearest m_nearestTown a_there a_backAt a_sorted a_parts m_seed1 m_darkNow)] [(cAI g a_r 311 d_r), (cAI g a_sorted 8 d_sorted), (cAI g a_parts 256 d_parts)] [0] [1, 2, 3] (m_good l g h0 m_thrown a_tape m_taped m_size m_at m_end m_token m_whole m_nameSize m_fault m_place m_trouble a_letters m_failed m_hasHouse a_r a_fresh a_st a_undone a_kept m_undos m_images a_from a_begin a_motor a_change a_startFrame a_changeFrame a_lostAt a_blackAt a_slips a_leftArc a_died a_arcs m_bestSum m_nearest m_nearestTown a_there a_backAt a_sorted a_parts m_seed1 m_darkNow) dX11_exchanges_1 mw477 mw478 mw479 mw5 mw480 rfl 11 rfl rfl 0 _ rfl yk_yX11_good_0 rfl (Nat.le_of_ble_eq_true rfl) (Nat.le_of_ble_eq_true rfl) (Nat.le_of_ble_eq_true rfl) (Nat.le_of_ble_eq_true rfl) (Nat.le_of_ble_eq_true rfl) rfl rfl (by decide) rfl (by decide) (by decide) ?_
  rintro w ⟨m_thrown2_1, m_trouble2_2, rfl⟩
  refine k_ws [(cAI g a_r 311 d_r), (cAI g a_sorted 8 d_sorted), (cAI g a_parts 256 d_parts), (cO11_i1r1i10r1i2r5i2r12i3r4i2 h0 m_thrown2_1 a_tape m_taped m_size m_at m_end m_token m_whole m_nameSize m_fault m_place m_trouble2_2 a_letters m_failed m_hasHouse a_r a_fresh a_st a_undone a_kept m_undos m_images a_from a_begin a_motor a_change a_startFrame a_changeFrame a_lostAt a_blackAt a_slips a_leftArc a_died a_arcs m_bestSum m_nearest m_nearestTown a_there a_backAt a_sorted a_parts m_seed1 m_darkNow)] rfl ?_
  refine k_aload_n X dX11_exchanges_4 0 rfl ?_
  refine k_get (ci := 11) X inlX11 rfl 14 (by decide) dX11_exchanges_5 mw474 3 rfl rfl ?_
  refine k_if_ne 17 X dX11_exchanges_8 (by decide) (fun h_4 => ?_) (fun h_4 => ?_)
  · skip
    have iv_5 : IV m_hasHouse 1 1 := iv_neL h_4 hv_m_hasHouse (show IV 0 0 0 from (by decide)) (by decide)
    refine k_aload_n X dX11_exchanges_17 0 rfl ?_
    refine k_callVV (n := 0) (As := []) (st := []) X [(cO11_i1r1i10r1i2r5i2r12i3r4i2 h0 m_thrown2_1 a_tape m_taped m_size m_at m_end m_token m_whole m_nameSize m_fault m_place m_trouble2_2 a_letters m_failed m_hasHouse a_r a_fresh a_st a_undone a_kept m_undos m_images a_from a_begin a_motor a_change a_startFrame a_changeFrame a_lostAt a_blackAt a_slips a_leftArc a_died a_arcs m_bestSum m_nearest m_nearestTown a_there a_backAt a_sorted a_parts m_seed1 m_darkNow), (cAI g a_r 311 d_r), (cAI g a_sorted 8 d_sorted)] [(cAI g a_parts 256 d_parts)] [3, 0, 1] [2] (m_laySorted l g h0 m_thrown2_1 a_tape m_taped m_size m_at m_end m_token m_whole m_nameSize m_fault m_place m_trouble2_2 a_letters m_failed m_hasHouse a_r a_fresh a_st a_undone a_kept m_undos m_images a_from a_begin a_motor a_change a_startFrame a_changeFrame a_lostAt a_blackAt a_slips a_leftArc a_died a_arcs m_bestSum m_nearest m_nearestTown a_there a_backAt a_sorted a_parts m_seed1 m_darkNow d_r d_sorted hp_d_r) dX11_exchanges_18 mw1398 mw1399 mw1400 mw5 mw1401 rfl 11 rfl rfl 0 _ rfl yk_yX11_laySorted_0 rfl (Nat.le_of_ble_eq_true rfl) (Nat.le_of_ble_eq_true rfl) (Nat.le_of_ble_eq_true rfl) (Nat.le_of_ble_eq_true rfl) (Nat.le_of_ble_eq_true rfl) rfl rfl (by decide) rfl (by decide) (by decide) ?_
    rintro w ⟨d_sorted2_6, rfl⟩
    refine k_ws [(cAI g a_parts 256 d_parts), (cO11_i1r1i10r1i2r5i2r12i3r4i2 h0 m_thrown2_1 a_tape m_taped m_size m_at m_end m_token m_whole m_nameSize m_fault m_place m_trouble2_2 a_letters m_failed m_hasHouse a_r a_fresh a_st a_undone a_kept m_undos m_images a_from a_begin a_motor a_change a_startFrame a_changeFrame a_lostAt a_blackAt a_slips a_leftArc a_died a_arcs m_bestSum m_nearest m_nearestTown a_there a_backAt a_sorted a_parts m_seed1 m_darkNow), (cAI g a_r 311 d_r), (cAI g a_sorted 8 d_sorted2_6)] rfl ?_
    refine k_iconst (v := 1) X dX11_exchanges_21 (by decide) ?_
    refine k_aload_n X dX11_exchanges_22 0 rfl ?_
    refine k_get (ci := 11) X inlX11 rfl 15 (by decide) dX11_exchanges_23 mw170 1 rfl rfl ?_
    refine k_bipush (v := 12) X dX11_exchanges_26 (by decide) ?_
    refine k_iald X dX11_exchanges_28 2 rfl (by unfold vp_in; decide) ?_
    refine k_nm (fun z_8 ez_8 => ?_)
    have i_9 : z_8.toInt = (d_r 12).toInt := by rw [ez_8]; rfl
    have iv_10 : IV z_8 0 8 := rb_12 ez_8 hp_d_r
    refine k_ishl X dX11_exchanges_29 ?_
    refine k_nm (fun z_11 ez_11 => ?_)
    have iv_12 : IV z_11 1 256 := iv_shl ez_11 (iv_w iv_10 (by decide) (by decide))
    refine k_iconst (v := 1) X dX11_exchanges_30 (by decide) ?_
    refine k_isub X dX11_exchanges_31 ?_
    refine k_nm (fun z_13 ez_13 => ?_)
    have i_14 : z_13.toInt = z_11.toInt - 1 := in_sub ez_13 iv_12 (show IV 1 1 1 from (by decide)) (by decide) (by decide)
    have iv_15 : IV z_13 0 255 := iz5 i_14 iv_12 (by decide) (by decide)
    refine k_istore_n [(1, .int z_13), (0, .ref h0)] X dX11_exchanges_32 (by decide) rfl ?_
    refine k_aload_n X dX11_exchanges_33 1 rfl ?_
    refine k_get (ci := 11) X inlX11 rfl 40 (by decide) dX11_exchanges_34 mw190 1 rfl rfl ?_
    refine k_iconst (v := 0) X dX11_exchanges_37 (by decide) ?_
    refine k_iconst (v := 0) X dX11_exchanges_38 (by decide) ?_
    refine k_iast [(cAI g a_parts 256 (upd d_parts (0 : Int32).toNatClampNeg 0)), (cO11_i1r1i10r1i2r5i2r12i3r4i2 h0 m_thrown2_1 a_tape m_taped m_size m_at m_end m_token m_whole m_nameSize m_fault m_place m_trouble2_2 a_letters m_failed m_hasHouse a_r a_fresh a_st a_undone a_kept m_undos m_images a_from a_begin a_motor a_change a_startFrame a_changeFrame a_lostAt a_blackAt a_slips a_leftArc a_died a_arcs m_bestSum m_nearest m_nearestTown a_there a_backAt a_sorted a_parts m_seed1 m_darkNow), (cAI g a_r 311 d_r), (cAI g a_sorted 8 d_sorted2_6)] X dX11_exchanges_39 0 rfl (by unfold vp_in; decide) rfl ?_
    refine (fun hg : ∀ fa_16 : Nat → Int32, Wk p l e _ s m args below meth c _ A g _ _ _ [(cAI g a_parts 256 fa_16), (cO11_i1r1i10r1i2r5i2r12i3r4i2 h0 m_thrown2_1 a_tape m_taped m_size m_at m_end m_token m_whole m_nameSize m_fault m_place m_trouble2_2 a_letters m_failed m_hasHouse a_r a_fresh a_st a_undone a_kept m_undos m_images a_from a_begin a_motor a_change a_startFrame a_changeFrame a_lostAt a_blackAt a_slips a_leftArc a_died a_arcs m_bestSum m_nearest m_nearestTown a_there a_backAt a_sorted a_parts m_seed1 m_darkNow), (cAI g a_r 311 d_r), (cAI g a_sorted 8 d_sorted2_6)] _ _ _ => hg _) (fun fa_16 => ?_)
    refine k_iconst (v := 1) X dX11_exchanges_40 (by decide) ?_
    refine k_istore_n [(2, .int 1), (1, .int z_13), (0, .ref h0)] X dX11_exchanges_41 (by decide) rfl ?_
    refine (fun hL : ∀ (nn_20 : Nat) (uf_17 : Nat → Int32) (u_18 : Int32), (z_13.toInt + 1 - u_18.toInt).toNat = nn_20 → (IV u_18 1 900) → Wk p l e _ s m args below meth c _ A g _ _ _ [(cAI g a_parts 256 uf_17), (cO11_i1r1i10r1i2r5i2r12i3r4i2 h0 m_thrown2_1 a_tape m_taped m_size m_at m_end m_token m_whole m_nameSize m_fault m_place m_trouble2_2 a_letters m_failed m_hasHouse a_r a_fresh a_st a_undone a_kept m_undos m_images a_from a_begin a_motor a_change a_startFrame a_changeFrame a_lostAt a_blackAt a_slips a_leftArc a_died a_arcs m_bestSum m_nearest m_nearestTown a_there a_backAt a_sorted a_parts m_seed1 m_darkNow), (cAI g a_r 311 d_r), (cAI g a_sorted 8 d_sorted2_6)] [(2, .int u_18), (1, .int z_13), (0, .ref h0)] 42 [] => hL _ fa_16 1 rfl (iv_w (show IV 1 1 1 from (by decide)) (by decide) (by decide))) ?_
    refine fun nn_20 => Nat.strongRecOn nn_20 (fun nn_20 ih_22 => ?_)
    intro uf_17 u_18 hm_21 hv_19
    refine k_iload_n X dX11_exchanges_42 0 rfl ?_
    refine k_iload_n X dX11_exchanges_43 1 rfl ?_
    refine k_ic_gt 124 X dX11_exchanges_44 (by decide) (fun h_23 => ?_) (fun h_23 => ?_)
    · skip
      have j_24 : z_13.toInt < u_18.toInt := iv_lt h_23
      refine k_aload_n X dX11_exchanges_124 2 rfl ?_
      refine k_get (ci := 11) X inlX11 rfl 15 (by decide) dX11_exchanges_125 mw170 1 rfl rfl ?_
      refine k_bipush (v := 12) X dX11_exchanges_128 (by decide) ?_
      refine k_iald X dX11_exchanges_130 2 rfl (by unfold vp_in; decide) ?_
      refine k_to z_8 ez_8.symm ?_
      refine k_aload_n X dX11_exchanges_131 2 rfl ?_
      refine k_get (ci := 11) X inlX11 rfl 40 (by decide) dX11_exchanges_132 mw190 1 rfl rfl ?_
      refine k_iload_n X dX11_exchanges_135 1 rfl ?_
      refine k_iald X dX11_exchanges_136 0 rfl (iv_in iv_15 (by decide) (by decide)) ?_
      refine k_nm (fun z_25 ez_25 => ?_)
      refine k_isub X dX11_exchanges_137 ?_
      refine k_nm (fun z_26 ez_26 => ?_)
      exact k_iret X hr dX11_exchanges_138 (Nat.le_of_ble_eq_true rfl) (Nat.le_of_ble_eq_true rfl) [1, 2, 3, 0] (by decide) rfl rfl ⟨uf_17, d_sorted2_6, m_thrown2_1, m_trouble2_2, rfl⟩
    · skip
      have j_28 : u_18.toInt ≤ z_13.toInt := iv_nlt h_23
      have iv_29 : IV u_18 1 255 := iv_leL (iv_nlt h_23) hv_19 iv_15 (by decide)
      have iv_30 : IV z_13 1 255 := iv_leR (iv_nlt h_23) hv_19 iv_15 (by decide)
      have iv_31 : IV z_11 2 256 := by have := iv_12; have := iv_30; rw [IV]; omega
      refine k_iconst (v := 0) X dX11_exchanges_47 (by decide) ?_
      refine k_istore_n [(3, .int 0), (2, .int u_18), (1, .int z_13), (0, .ref h0)] X dX11_exchanges_48 (by decide) rfl ?_
      refine k_iconst (v := 0) X dX11_exchanges_49 (by decide) ?_
      refine k_istore [(4, .int 0), (3, .int 0), (2, .int u_18), (1, .int z_13), (0, .ref h0)] X dX11_exchanges_50 (by decide) rfl ?_
      refine (fun hL : ∀ (nn_35 : Nat) (u_32 : Int32) (u_33 : Int32), (z_8.toInt - u_33.toInt).toNat = nn_35 → (IV u_33 0 8) → Wk p l e _ s m args below meth c _ A g _ _ _ [(cAI g a_parts 256 uf_17), (cO11_i1r1i10r1i2r5i2r12i3r4i2 h0 m_thrown2_1 a_tape m_taped m_size m_at m_end m_token m_whole m_nameSize m_fault m_place m_trouble2_2 a_letters m_failed m_hasHouse a_r a_fresh a_st a_undone a_kept m_undos m_images a_from a_begin a_motor a_change a_startFrame a_changeFrame a_lostAt a_blackAt a_slips a_leftArc a_died a_arcs m_bestSum m_nearest m_nearestTown a_there a_backAt a_sorted a_parts m_seed1 m_darkNow), (cAI g a_r 311 d_r), (cAI g a_sorted 8 d_sorted2_6)] [(4, .int u_33), (3, .int u_32), (2, .int u_18), (1, .int z_13), (0, .ref h0)] 52 [] => hL _ 0 0 rfl (iv_w (show IV 0 0 0 from (by decide)) (by decide) (by decide))) ?_
      refine fun nn_35 => Nat.strongRecOn nn_35 (fun nn_35 ih_37 => ?_)
      intro u_32 u_33 hm_36 hv_34
      refine k_iload X dX11_exchanges_52 0 rfl ?_
      refine k_aload_n X dX11_exchanges_54 4 rfl ?_
      refine k_get (ci := 11) X inlX11 rfl 15 (by decide) dX11_exchanges_55 mw170 1 rfl rfl ?_
      refine k_bipush (v := 12) X dX11_exchanges_58 (by decide) ?_
      refine k_iald X dX11_exchanges_60 2 rfl (by unfold vp_in; decide) ?_
      refine k_to z_8 ez_8.symm ?_
      refine k_ic_ge 97 X dX11_exchanges_61 (by decide) (fun h_38 => ?_) (fun h_38 => ?_)
      · skip
        have j_39 : z_8.toInt ≤ u_33.toInt := iv_le h_38
        refine k_aload_n X dX11_exchanges_97 4 rfl ?_
        refine k_get (ci := 11) X inlX11 rfl 40 (by decide) dX11_exchanges_98 mw190 1 rfl rfl ?_
        refine k_iload_n X dX11_exchanges_101 2 rfl ?_
        refine k_iload_n X dX11_exchanges_102 1 rfl ?_
        refine k_aload_n X dX11_exchanges_103 4 rfl ?_
        refine k_iload_n X dX11_exchanges_104 2 rfl ?_
        refine k_callVI (n := 1) (As := [.int u_18]) (st := [.int u_32, .int u_18, .ref a_parts]) X [(cO11_i1r1i10r1i2r5i2r12i3r4i2 h0 m_thrown2_1 a_tape m_taped m_size m_at m_end m_token m_whole m_nameSize m_fault m_place m_trouble2_2 a_letters m_failed m_hasHouse a_r a_fresh a_st a_undone a_kept m_undos m_images a_from a_begin a_motor a_change a_startFrame a_changeFrame a_lostAt a_blackAt a_slips a_leftArc a_died a_arcs m_bestSum m_nearest m_nearestTown a_there a_backAt a_sorted a_parts m_seed1 m_darkNow), (cAI g a_r 311 d_r), (cAI g a_sorted 8 d_sorted2_6)] [(cAI g a_parts 256 uf_17)] [1, 2, 3] [0] (m_isEven l g h0 u_18 m_thrown2_1 a_tape m_taped m_size m_at m_end m_token m_whole m_nameSize m_fault m_place m_trouble2_2 a_letters m_failed m_hasHouse a_r a_fresh a_st a_undone a_kept m_undos m_images a_from a_begin a_motor a_change a_startFrame a_changeFrame a_lostAt a_blackAt a_slips a_leftArc a_died a_arcs m_bestSum m_nearest m_nearestTown a_there a_backAt a_sorted a_parts m_seed1 m_darkNow d_r d_sorted2_6 hp_d_r) dX11_exchanges_105 mw1402 mw1403 mw1404 mw5 mw1405 rfl 11 rfl rfl 0 _ rfl yk_yX11_isEven_1 rfl (Nat.le_of_ble_eq_true rfl) (Nat.le_of_ble_eq_true rfl) (Nat.le_of_ble_eq_true rfl) (Nat.le_of_ble_eq_true rfl) (Nat.le_of_ble_eq_true rfl) rfl rfl (by decide) rfl (by decide) (by decide) ?_
        rintro r_40 w ⟨iv_41, rfl⟩
        refine k_ws [(cAI g a_parts 256 uf_17), (cO11_i1r1i10r1i2r5i2r12i3r4i2 h0 m_thrown2_1 a_tape m_taped m_size m_at m_end m_token m_whole m_nameSize m_fault m_place m_trouble2_2 a_letters m_failed m_hasHouse a_r a_fresh a_st a_undone a_kept m_undos m_images a_from a_begin a_motor a_change a_startFrame a_changeFrame a_lostAt a_blackAt a_slips a_leftArc a_died a_arcs m_bestSum m_nearest m_nearestTown a_there a_backAt a_sorted a_parts m_seed1 m_darkNow), (cAI g a_r 311 d_r), (cAI g a_sorted 8 d_sorted2_6)] rfl ?_
        refine k_if_eq 115 X dX11_exchanges_108 (by decide) (fun h_42 => ?_) (fun h_42 => ?_)
        · skip
          have iv_43 : IV r_40 0 0 := iv_meet iv_41 (iv_e h_42 (show IV 0 0 0 from (by decide))) (by decide) (by decide)
          refine k_iconst (v := 0) X dX11_exchanges_115 (by decide) ?_
          refine k_iadd X dX11_exchanges_116 ?_
          refine k_nm (fun z_44 ez_44 => ?_)
          have i_45 : z_44.toInt = u_32.toInt + 0 := in_add ez_44 (iv_any u_32) (show IV 0 0 0 from (by decide)) (by decide) (by decide)
          have iv_46 : IV z_44 (-2147483648) 2147483647 := by have := (iv_any u_32); have := (show IV 0 0 0 from (by decide)); rw [IV, i_45]; omega
          refine k_iast [(cAI g a_parts 256 (upd uf_17 (u_18 : Int32).toNatClampNeg z_44)), (cO11_i1r1i10r1i2r5i2r12i3r4i2 h0 m_thrown2_1 a_tape m_taped m_size m_at m_end m_token m_whole m_nameSize m_fault m_place m_trouble2_2 a_letters m_failed m_hasHouse a_r a_fresh a_st a_undone a_kept m_undos m_images a_from a_begin a_motor a_change a_startFrame a_changeFrame a_lostAt a_blackAt a_slips a_leftArc a_died a_arcs m_bestSum m_nearest m_nearestTown a_there a_backAt a_sorted a_parts m_seed1 m_darkNow), (cAI g a_r 311 d_r), (cAI g a_sorted 8 d_sorted2_6)] X dX11_exchanges_117 0 rfl (iv_in iv_29 (by decide) (by decide)) rfl ?_
          refine (fun hg : ∀ fa_47 : Nat → Int32, Wk p l e _ s m args below meth c _ A g _ _ _ [(cAI g a_parts 256 fa_47), (cO11_i1r1i10r1i2r5i2r12i3r4i2 h0 m_thrown2_1 a_tape m_taped m_size m_at m_end m_token m_whole m_nameSize m_fault m_place m_trouble2_2 a_letters m_failed m_hasHouse a_r a_fresh a_st a_undone a_kept m_undos m_images a_from a_begin a_motor a_change a_startFrame a_changeFrame a_lostAt a_blackAt a_slips a_leftArc a_died a_arcs m_bestSum m_nearest m_nearestTown a_there a_backAt a_sorted a_parts m_seed1 m_darkNow), (cAI g a_r 311 d_r), (cAI g a_sorted 8 d_sorted2_6)] _ _ _ => hg _) (fun fa_47 => ?_)
          obtain ⟨z_48, ez_48⟩ : ∃ y : Int32, u_18 + Int32.ofInt 1 = y := ⟨_, rfl⟩
          refine k_iinc z_48 [(2, .int z_48), (4, .int u_33), (3, .int u_32), (1, .int z_13), (0, .ref h0)] 2 X dX11_exchanges_118 rfl ez_48 (by decide) rfl ?_
          have i_49 : z_48.toInt = u_18.toInt + 1 := in_inc ez_48 (by decide) iv_29 (by decide) (by decide)
          have iv_50 : IV z_48 2 256 := iz1 i_49 iv_29 (by decide) (by decide)
          refine k_goto 42 X dX11_exchanges_121 (by decide) ?_
          refine k_lv [(2, .int z_48), (1, .int z_13), (0, .ref h0)] [0, 3, 4] rfl ?_
          exact ih_22 _ (by omega) fa_47 z_48 rfl (iv_w iv_50 (by decide) (by decide))
        · skip
          have iv_51 : IV r_40 1 1 := iv_neL h_42 iv_41 (show IV 0 0 0 from (by decide)) (by decide)
          refine k_iconst (v := 1) X dX11_exchanges_111 (by decide) ?_
          refine k_goto 116 X dX11_exchanges_112 (by decide) ?_
          refine k_iadd X dX11_exchanges_116 ?_
          refine k_nm (fun z_52 ez_52 => ?_)
          refine k_iast [(cAI g a_parts 256 (upd uf_17 (u_18 : Int32).toNatClampNeg z_52)), (cO11_i1r1i10r1i2r5i2r12i3r4i2 h0 m_thrown2_1 a_tape m_taped m_size m_at m_end m_token m_whole m_nameSize m_fault m_place m_trouble2_2 a_letters m_failed m_hasHouse a_r a_fresh a_st a_undone a_kept m_undos m_images a_from a_begin a_motor a_change a_startFrame a_changeFrame a_lostAt a_blackAt a_slips a_leftArc a_died a_arcs m_bestSum m_nearest m_nearestTown a_there a_backAt a_sorted a_parts m_seed1 m_darkNow), (cAI g a_r 311 d_r), (cAI g a_sorted 8 d_sorted2_6)] X dX11_exchanges_117 0 rfl (iv_in iv_29 (by decide) (by decide)) rfl ?_
          refine (fun hg : ∀ fa_54 : Nat → Int32, Wk p l e _ s m args below meth c _ A g _ _ _ [(cAI g a_parts 256 fa_54), (cO11_i1r1i10r1i2r5i2r12i3r4i2 h0 m_thrown2_1 a_tape m_taped m_size m_at m_end m_token m_whole m_nameSize m_fault m_place m_trouble2_2 a_letters m_failed m_hasHouse a_r a_fresh a_st a_undone a_kept m_undos m_images a_from a_begin a_motor a_change a_startFrame a_changeFrame a_lostAt a_blackAt a_slips a_leftArc a_died a_arcs m_bestSum m_nearest m_nearestTown a_there a_backAt a_sorted a_parts m_seed1 m_darkNow), (cAI g a_r 311 d_r), (cAI g a_sorted 8 d_sorted2_6)] _ _ _ => hg _) (fun fa_54 => ?_)
          obtain ⟨z_55, ez_55⟩ : ∃ y : Int32, u_18 + Int32.ofInt 1 = y := ⟨_, rfl⟩
          refine k_iinc z_55 [(2, .int z_55), (4, .int u_33), (3, .int u_32), (1, .int z_13), (0, .ref h0)] 2 X dX11_exchanges_118 rfl ez_55 (by decide) rfl ?_
          have i_56 : z_55.toInt = u_18.toInt + 1 := in_inc ez_55 (by decide) iv_29 (by decide) (by decide)
          have iv_57 : IV z_55 2 256 := iz1 i_56 iv_29 (by decide) (by decide)
          refine k_goto 42 X dX11_exchanges_121 (by decide) ?_
          refine k_lv [(2, .int z_55), (1, .int z_13), (0, .ref h0)] [0, 3, 4] rfl ?_
          exact ih_22 _ (by omega) fa_54 z_55 rfl (iv_w iv_57 (by decide) (by decide))
      · skip
        have j_58 : u_33.toInt < z_8.toInt := iv_nle h_38
        have iv_59 : IV u_33 0 7 := iv_ltL (iv_nle h_38) hv_34 iv_10 (by decide)
        have iv_60 : IV z_8 1 8 := iv_ltR (iv_nle h_38) hv_34 iv_10 (by decide)
        refine k_iload_n X dX11_exchanges_64 2 rfl ?_
        refine k_iload X dX11_exchanges_65 0 rfl ?_
        refine k_callSI (n := 2) (As := [.int u_18, .int u_33]) (st := []) X [] [(cAI g a_parts 256 uf_17), (cO11_i1r1i10r1i2r5i2r12i3r4i2 h0 m_thrown2_1 a_tape m_taped m_size m_at m_end m_token m_whole m_nameSize m_fault m_place m_trouble2_2 a_letters m_failed m_hasHouse a_r a_fresh a_st a_undone a_kept m_undos m_images a_from a_begin a_motor a_change a_startFrame a_changeFrame a_lostAt a_blackAt a_slips a_leftArc a_died a_arcs m_bestSum m_nearest m_nearestTown a_there a_backAt a_sorted a_parts m_seed1 m_darkNow), (cAI g a_r 311 d_r), (cAI g a_sorted 8 d_sorted2_6)] [] [0, 1, 2, 3] (m_hasBit l g u_18 u_33) dX11_exchanges_67 mw686 mw687 mw5 mw688 yk_yX11_hasBit_2 rfl (Nat.le_of_ble_eq_true rfl) (Nat.le_of_ble_eq_true rfl) (Nat.le_of_ble_eq_true rfl) (Nat.le_of_ble_eq_true rfl) (Nat.le_of_ble_eq_true rfl) rfl rfl (by decide) rfl (by decide) (by decide) ?_
        rintro r_61 w ⟨iv_62, rfl⟩
        refine k_ws [(cAI g a_parts 256 uf_17), (cO11_i1r1i10r1i2r5i2r12i3r4i2 h0 m_thrown2_1 a_tape m_taped m_size m_at m_end m_token m_whole m_nameSize m_fault m_place m_trouble2_2 a_letters m_failed m_hasHouse a_r a_fresh a_st a_undone a_kept m_undos m_images a_from a_begin a_motor a_change a_startFrame a_changeFrame a_lostAt a_blackAt a_slips a_leftArc a_died a_arcs m_bestSum m_nearest m_nearestTown a_there a_backAt a_sorted a_parts m_seed1 m_darkNow), (cAI g a_r 311 d_r), (cAI g a_sorted 8 d_sorted2_6)] rfl ?_
        refine k_if_eq 91 X dX11_exchanges_70 (by decide) (fun h_63 => ?_) (fun h_63 => ?_)
        · skip
          have iv_64 : IV r_61 0 0 := iv_meet iv_62 (iv_e h_63 (show IV 0 0 0 from (by decide))) (by decide) (by decide)
          obtain ⟨z_65, ez_65⟩ : ∃ y : Int32, u_33 + Int32.ofInt 1 = y := ⟨_, rfl⟩
          refine k_iinc z_65 [(4, .int z_65), (3, .int u_32), (2, .int u_18), (1, .int z_13), (0, .ref h0)] 0 X dX11_exchanges_91 rfl ez_65 (by decide) rfl ?_
          have i_66 : z_65.toInt = u_33.toInt + 1 := in_inc ez_65 (by decide) iv_59 (by decide) (by decide)
          have iv_67 : IV z_65 1 8 := iz1 i_66 iv_59 (by decide) (by decide)
          refine k_goto 52 X dX11_exchanges_94 (by decide) ?_
          exact ih_37 _ (by omega) u_32 z_65 rfl (iv_w iv_67 (by decide) (by decide))
        · skip
          have iv_68 : IV r_61 1 1 := iv_neL h_63 iv_62 (show IV 0 0 0 from (by decide)) (by decide)
          refine k_iload_n X dX11_exchanges_73 1 rfl ?_
          refine k_aload_n X dX11_exchanges_74 4 rfl ?_
          refine k_get (ci := 11) X inlX11 rfl 40 (by decide) dX11_exchanges_75 mw190 1 rfl rfl ?_
          refine k_iload_n X dX11_exchanges_78 2 rfl ?_
          refine k_iconst (v := 1) X dX11_exchanges_79 (by decide) ?_
          refine k_iload X dX11_exchanges_80 0 rfl ?_
          refine k_ishl X dX11_exchanges_82 ?_
          refine k_nm (fun z_69 ez_69 => ?_)
          have iv_70 : IV z_69 1 256 := iv_shl ez_69 (iv_w iv_59 (by decide) (by decide))
          refine k_iconst (v := -1) X dX11_exchanges_83 (by decide) ?_
          refine k_ixor X dX11_exchanges_84 ?_
          refine k_nm (fun z_71 ez_71 => ?_)
          refine k_iand X dX11_exchanges_85 ?_
          refine k_nm (fun z_72 ez_72 => ?_)
          have iv_73 : IV z_72 0 255 := iv_and ez_72 iv_29 (by decide)
          refine k_iald X dX11_exchanges_86 0 rfl (iv_in iv_73 (by decide) (by decide)) ?_
          refine k_nm (fun z_74 ez_74 => ?_)
          refine k_callSI (n := 2) (As := [.int u_32, .int z_74]) (st := []) X [] [(cAI g a_parts 256 uf_17), (cO11_i1r1i10r1i2r5i2r12i3r4i2 h0 m_thrown2_1 a_tape m_taped m_size m_at m_end m_token m_whole m_nameSize m_fault m_place m_trouble2_2 a_letters m_failed m_hasHouse a_r a_fresh a_st a_undone a_kept m_undos m_images a_from a_begin a_motor a_change a_startFrame a_changeFrame a_lostAt a_blackAt a_slips a_leftArc a_died a_arcs m_bestSum m_nearest m_nearestTown a_there a_backAt a_sorted a_parts m_seed1 m_darkNow), (cAI g a_r 311 d_r), (cAI g a_sorted 8 d_sorted2_6)] [] [0, 1, 2, 3] (m_most l g u_32 z_74) dX11_exchanges_87 mw842 mw843 mw5 mw844 yk_yX11_most_2 rfl (Nat.le_of_ble_eq_true rfl) (Nat.le_of_ble_eq_true rfl) (Nat.le_of_ble_eq_true rfl) (Nat.le_of_ble_eq_true rfl) (Nat.le_of_ble_eq_true rfl) rfl rfl (by decide) rfl (by decide) (by decide) ?_
          rintro r_75 w rfl
          refine k_ws [(cAI g a_parts 256 uf_17), (cO11_i1r1i10r1i2r5i2r12i3r4i2 h0 m_thrown2_1 a_tape m_taped m_size m_at m_end m_token m_whole m_nameSize m_fault m_place m_trouble2_2 a_letters m_failed m_hasHouse a_r a_fresh a_st a_undone a_kept m_undos m_images a_from a_begin a_motor a_change a_startFrame a_changeFrame a_lostAt a_blackAt a_slips a_leftArc a_died a_arcs m_bestSum m_nearest m_nearestTown a_there a_backAt a_sorted a_parts m_seed1 m_darkNow), (cAI g a_r 311 d_r), (cAI g a_sorted 8 d_sorted2_6)] rfl ?_
          refine k_istore_n [(3, .int r_75), (4, .int u_33), (2, .int u_18), (1, .int z_13), (0, .ref h0)] X dX11_exchanges_90 (by decide) rfl ?_
          obtain ⟨z_76, ez_76⟩ : ∃ y : Int32, u_33 + Int32.ofInt 1 = y := ⟨_, rfl⟩
          refine k_iinc z_76 [(4, .int z_76), (3, .int r_75), (2, .int u_18), (1, .int z_13), (0, .ref h0)] 1 X dX11_exchanges_91 rfl ez_76 (by decide) rfl ?_
          have i_77 : z_76.toInt = u_33.toInt + 1 := in_inc ez_76 (by decide) iv_59 (by decide) (by decide)
          have iv_78 : IV z_76 1 8 := iz1 i_77 iv_59 (by decide) (by decide)
          refine k_goto 52 X dX11_exchanges_94 (by decide) ?_
          exact ih_37 _ (by omega) r_75 z_76 rfl (iv_w iv_78 (by decide) (by decide))
  · skip
    have iv_79 : IV m_hasHouse 0 0 := iv_meet hv_m_hasHouse (iv_e h_4 (show IV 0 0 0 from (by decide))) (by decide) (by decide)
    refine k_aload_n X dX11_exchanges_11 0 rfl ?_
    refine k_iconst (v := 1) X dX11_exchanges_12 (by decide) ?_
    refine k_callVI (n := 1) (As := [.int 1]) (st := []) X [(cO11_i1r1i10r1i2r5i2r12i3r4i2 h0 m_thrown2_1 a_tape m_taped m_size m_at m_end m_token m_whole m_nameSize m_fault m_place m_trouble2_2 a_letters m_failed m_hasHouse a_r a_fresh a_st a_undone a_kept m_undos m_images a_from a_begin a_motor a_change a_startFrame a_changeFrame a_lostAt a_blackAt a_slips a_leftArc a_died a_arcs m_bestSum m_nearest m_nearestTown a_there a_backAt a_sorted a_parts m_seed1 m_darkNow)] [(cAI g a_r 311 d_r), (cAI g a_sorted 8 d_sorted), (cAI g a_parts 256 d_parts)] [3] [0, 1, 2] (m_no l g h0 1 m_thrown2_1 a_tape m_taped m_size m_at m_end m_token m_whole m_nameSize m_fault m_place m_trouble2_2 a_letters m_failed m_hasHouse a_r a_fresh a_st a_undone a_kept m_undos m_images a_from a_begin a_motor a_change a_startFrame a_changeFrame a_lostAt a_blackAt a_slips a_leftArc a_died a_arcs m_bestSum m_nearest m_nearestTown a_there a_backAt a_sorted a_parts m_seed1 m_darkNow) dX11_exchanges_13 mw485 mw486 mw487 mw5 mw488 rfl 11 rfl rfl 0 _ rfl yk_yX11_no_1 rfl (Nat.le_of_ble_eq_true rfl) (Nat.le_of_ble_eq_true rfl) (Nat.le_of_ble_eq_true rfl) (Nat.le_of_ble_eq_true rfl) (Nat.le_of_ble_eq_true rfl) rfl rfl (by decide) rfl (by decide) (by decide) ?_
    rintro r_81 w ⟨m_trouble2_80, iv_82, rfl⟩
    refine k_ws [(cAI g a_r 311 d_r), (cAI g a_sorted 8 d_sorted), (cAI g a_parts 256 d_parts), (cO11_i1r1i10r1i2r5i2r12i3r4i2 h0 m_thrown2_1 a_tape m_taped m_size m_at m_end m_token m_whole m_nameSize m_fault m_place m_trouble2_80 a_letters m_failed m_hasHouse a_r a_fresh a_st a_undone a_kept m_undos m_images a_from a_begin a_motor a_change a_startFrame a_changeFrame a_lostAt a_blackAt a_slips a_leftArc a_died a_arcs m_bestSum m_nearest m_nearestTown a_there a_backAt a_sorted a_parts m_seed1 m_darkNow)] rfl ?_
    exact k_iret X hr dX11_exchanges_16 (Nat.le_of_ble_eq_true rfl) (Nat.le_of_ble_eq_true rfl) [3, 0, 1, 2] (by decide) rfl rfl ⟨d_parts, d_sorted, m_thrown2_1, m_trouble2_80, rfl⟩

theorem dX11_drawn_0 : decode cX11_drawn 0 = .ok (.aload_n 0, 1) := dk_42 rfl
theorem dX11_drawn_1 : decode cX11_drawn 1 = .ok (.bipush 75, 2) := dk_16 rfl rfl (by decide)
theorem dX11_drawn_3 : decode cX11_drawn 3 = .ok (.aload_n 0, 1) := dk_42 rfl
theorem dX11_drawn_4 : decode cX11_drawn 4 = .ok (.getfield 458, 3) := dk_180 rfl rfl rfl rfl
theorem dX11_drawn_7 : decode cX11_drawn 7 = .ok (.imul, 1) := dk_104 rfl
theorem dX11_drawn_8 : decode cX11_drawn 8 = .ok (.bipush 74, 2) := dk_16 rfl rfl (by decide)
theorem dX11_drawn_10 : decode cX11_drawn 10 = .ok (.iadd, 1) := dk_96 rfl
theorem dX11_drawn_11 : decode cX11_drawn 11 = .ok (.ldc_w 461, 3) := dk_19 rfl rfl rfl rfl
theorem dX11_drawn_14 : decode cX11_drawn 14 = .ok (.irem, 1) := dk_112 rfl
theorem dX11_drawn_15 : decode cX11_drawn 15 = .ok (.putfield 458, 3) := dk_181 rfl rfl rfl rfl
theorem dX11_drawn_18 : decode cX11_drawn 18 = .ok (.aload_n 0, 1) := dk_42 rfl
theorem dX11_drawn_19 : decode cX11_drawn 19 = .ok (.getfield 458, 3) := dk_180 rfl rfl rfl rfl
theorem dX11_drawn_22 : decode cX11_drawn 22 = .ok (.ireturn, 1) := dk_172 rfl
set_option maxHeartbeats 4000000 in
set_option maxRecDepth 100000 in
theorem m_drawn (l : Launch) (g : Gx) (h0 : Nat) (m_thrown : Int32) (a_tape : Nat) (m_taped : Int32) (m_size : Int32) (m_at : Int32) (m_end : Int32) (m_token : Int32) (m_whole : Int32) (m_nameSize : Int32) (m_fault : Int32) (m_place : Int32) (m_trouble : Int32) (a_letters : Nat) (m_failed : Int32) (m_hasHouse : Int32) (a_r : Nat) (a_fresh : Nat) (a_st : Nat) (a_undone : Nat) (a_kept : Nat) (m_undos : Int32) (m_images : Int32) (a_from : Nat) (a_begin : Nat) (a_motor : Nat) (a_change : Nat) (a_startFrame : Nat) (a_changeFrame : Nat) (a_lostAt : Nat) (a_blackAt : Nat) (a_slips : Nat) (a_leftArc : Nat) (a_died : Nat) (a_arcs : Nat) (m_bestSum : Int32) (m_nearest : Int32) (m_nearestTown : Int32) (a_there : Nat) (a_backAt : Nat) (a_sorted : Nat) (a_parts : Nat) (m_seed1 : Int32) (m_darkNow : Int32) : cI l g yX11_drawn cX11_drawn 1 (some .int) 0 0 0 0 [.ref h0] [(cO11_i1r1i10r1i2r5i2r12i3r4i2 h0 m_thrown a_tape m_taped m_size m_at m_end m_token m_whole m_nameSize m_fault m_place m_trouble a_letters m_failed m_hasHouse a_r a_fresh a_st a_undone a_kept m_undos m_images a_from a_begin a_motor a_change a_startFrame a_changeFrame a_lostAt a_blackAt a_slips a_leftArc a_died a_arcs m_bestSum m_nearest m_nearestTown a_there a_backAt a_sorted a_parts m_seed1 m_darkNow)] (fun r w => ∃ (m_seed12 : Int32), w = [(cO11_i1r1i10r1i2r5i2r12i3r4i2 h0 m_thrown a_tape m_taped m_size m_at m_end m_token m_whole m_nameSize m_fault m_place m_trouble a_letters m_failed m_hasHouse a_r a_fresh a_st a_undone a_kept m_undos m_images a_from a_begin a_motor a_change a_startFrame a_changeFrame a_lostAt a_blackAt a_slips a_leftArc a_died a_arcs m_bestSum m_nearest m_nearestTown a_there a_backAt a_sorted a_parts m_seed12 m_darkNow)]) := by
  refine cI.of (by decide) (Nat.le_of_ble_eq_true rfl) ?_
  intro p e s m args below meth c A X hr hi
  refine k_lveq [(0, .ref h0)] rfl ?_
  refine k_aload_n X dX11_drawn_0 0 rfl ?_
  refine k_bipush (v := 75) X dX11_drawn_1 (by decide) ?_
  refine k_aload_n X dX11_drawn_3 0 rfl ?_
  refine k_get (ci := 11) X inlX11 rfl 41 (by decide) dX11_drawn_4 mw1421 0 rfl rfl ?_
  refine k_imul X dX11_drawn_7 ?_
  refine k_nm (fun z_1 ez_1 => ?_)
  refine k_bipush (v := 74) X dX11_drawn_8 (by decide) ?_
  refine k_iadd X dX11_drawn_10 ?_
  refine k_nm (fun z_3 ez_3 => ?_)
  refine k_ldcw (v := 65537) X dX11_drawn_11 mw1431 ?_
  refine k_irem X dX11_drawn_14 (by decide) ?_
  refine k_nm (fun z_5 ez_5 => ?_)
  refine k_put (ci := 11) [(cO11_i1r1i10r1i2r5i2r12i3r4i2 h0 m_thrown a_tape m_taped m_size m_at m_end m_token m_whole m_nameSize m_fault m_place m_trouble a_letters m_failed m_hasHouse a_r a_fresh a_st a_undone a_kept m_undos m_images a_from a_begin a_motor a_change a_startFrame a_changeFrame a_lostAt a_blackAt a_slips a_leftArc a_died a_arcs m_bestSum m_nearest m_nearestTown a_there a_backAt a_sorted a_parts z_5 m_darkNow)] X inlX11 rfl tyX11_ok nmX11 41 (by decide) rfl dX11_drawn_15 mw1421 0 rfl rfl rfl (Nat.le_of_ble_eq_true rfl) rfl ?_
  refine k_aload_n X dX11_drawn_18 0 rfl ?_
  refine k_get (ci := 11) X inlX11 rfl 41 (by decide) dX11_drawn_19 mw1421 0 rfl rfl ?_
  exact k_iret X hr dX11_drawn_22 (Nat.le_of_ble_eq_true rfl) (Nat.le_of_ble_eq_true rfl) [0] (by decide) rfl rfl ⟨z_5, rfl⟩

theorem dX11_drawNight_0 : decode cX11_drawNight 0 = .ok (.aload_n 0, 1) := dk_42 rfl
theorem dX11_drawNight_1 : decode cX11_drawNight 1 = .ok (.getfield 20, 3) := dk_180 rfl rfl rfl rfl
theorem dX11_drawNight_4 : decode cX11_drawNight 4 = .ok (.bipush 12, 2) := dk_16 rfl rfl (by decide)
theorem dX11_drawNight_6 : decode cX11_drawNight 6 = .ok (.iaload, 1) := dk_46 rfl
theorem dX11_drawNight_7 : decode cX11_drawNight 7 = .ok (.iconst 1, 1) := dk_4 rfl
theorem dX11_drawNight_8 : decode cX11_drawNight 8 = .ok (.isub, 1) := dk_100 rfl
theorem dX11_drawNight_9 : decode cX11_drawNight 9 = .ok (.istore_n 2, 1) := dk_61 rfl
theorem dX11_drawNight_10 : decode cX11_drawNight 10 = .ok (.iconst 0, 1) := dk_3 rfl
theorem dX11_drawNight_11 : decode cX11_drawNight 11 = .ok (.istore_n 3, 1) := dk_62 rfl
theorem dX11_drawNight_12 : decode cX11_drawNight 12 = .ok (.iload_n 3, 1) := dk_29 rfl
theorem dX11_drawNight_13 : decode cX11_drawNight 13 = .ok (.bipush 8, 2) := dk_16 rfl rfl (by decide)
theorem dX11_drawNight_15 : decode cX11_drawNight 15 = .ok (.if_icmp .ge 16, 3) := dk_162 rfl rfl rfl (by decide)
theorem dX11_drawNight_18 : decode cX11_drawNight 18 = .ok (.aload_n 0, 1) := dk_42 rfl
theorem dX11_drawNight_19 : decode cX11_drawNight 19 = .ok (.getfield 59, 3) := dk_180 rfl rfl rfl rfl
theorem dX11_drawNight_22 : decode cX11_drawNight 22 = .ok (.iload_n 3, 1) := dk_29 rfl
theorem dX11_drawNight_23 : decode cX11_drawNight 23 = .ok (.iconst 0, 1) := dk_3 rfl
theorem dX11_drawNight_24 : decode cX11_drawNight 24 = .ok (.iastore, 1) := dk_79 rfl
theorem dX11_drawNight_25 : decode cX11_drawNight 25 = .ok (.iinc 3 1, 3) := dk_132 rfl rfl rfl rfl (by decide)
theorem dX11_drawNight_28 : decode cX11_drawNight 28 = .ok (.goto (-16), 3) := dk_167 rfl rfl rfl (by decide)
theorem dX11_drawNight_31 : decode cX11_drawNight 31 = .ok (.aload_n 0, 1) := dk_42 rfl
theorem dX11_drawNight_32 : decode cX11_drawNight 32 = .ok (.iload_n 1, 1) := dk_27 rfl
theorem dX11_drawNight_33 : decode cX11_drawNight 33 = .ok (.invokevirtual 367, 3) := dk_182 rfl rfl rfl rfl
theorem dX11_drawNight_36 : decode cX11_drawNight 36 = .ok (.aload_n 0, 1) := dk_42 rfl
theorem dX11_drawNight_37 : decode cX11_drawNight 37 = .ok (.iconst 0, 1) := dk_3 rfl
theorem dX11_drawNight_38 : decode cX11_drawNight 38 = .ok (.putfield 462, 3) := dk_181 rfl rfl rfl rfl
theorem dX11_drawNight_41 : decode cX11_drawNight 41 = .ok (.iconst 0, 1) := dk_3 rfl
theorem dX11_drawNight_42 : decode cX11_drawNight 42 = .ok (.istore_n 3, 1) := dk_62 rfl
theorem dX11_drawNight_43 : decode cX11_drawNight 43 = .ok (.iload_n 3, 1) := dk_29 rfl
theorem dX11_drawNight_44 : decode cX11_drawNight 44 = .ok (.iload_n 2, 1) := dk_28 rfl
theorem dX11_drawNight_45 : decode cX11_drawNight 45 = .ok (.if_icmp .gt 152, 3) := dk_163 rfl rfl rfl (by decide)
theorem dX11_drawNight_48 : decode cX11_drawNight 48 = .ok (.aload_n 0, 1) := dk_42 rfl
theorem dX11_drawNight_49 : decode cX11_drawNight 49 = .ok (.iload_n 3, 1) := dk_29 rfl
theorem dX11_drawNight_50 : decode cX11_drawNight 50 = .ok (.invokevirtual 357, 3) := dk_182 rfl rfl rfl rfl
theorem dX11_drawNight_53 : decode cX11_drawNight 53 = .ok (.ifCond .eq 6, 3) := dk_153 rfl rfl rfl (by decide)
theorem dX11_drawNight_56 : decode cX11_drawNight 56 = .ok (.goto 135, 3) := dk_167 rfl rfl rfl (by decide)
theorem dX11_drawNight_59 : decode cX11_drawNight 59 = .ok (.iload_n 3, 1) := dk_29 rfl
theorem dX11_drawNight_60 : decode cX11_drawNight 60 = .ok (.iload_n 2, 1) := dk_28 rfl
theorem dX11_drawNight_61 : decode cX11_drawNight 61 = .ok (.if_icmp .ge 34, 3) := dk_162 rfl rfl rfl (by decide)
theorem dX11_drawNight_64 : decode cX11_drawNight 64 = .ok (.aload_n 0, 1) := dk_42 rfl
theorem dX11_drawNight_65 : decode cX11_drawNight 65 = .ok (.getfield 59, 3) := dk_180 rfl rfl rfl rfl
theorem dX11_drawNight_68 : decode cX11_drawNight 68 = .ok (.iload_n 3, 1) := dk_29 rfl
theorem dX11_drawNight_69 : decode cX11_drawNight 69 = .ok (.aload_n 0, 1) := dk_42 rfl
theorem dX11_drawNight_70 : decode cX11_drawNight 70 = .ok (.invokevirtual 465, 3) := dk_182 rfl rfl rfl rfl
theorem dX11_drawNight_73 : decode cX11_drawNight 73 = .ok (.aload_n 0, 1) := dk_42 rfl
theorem dX11_drawNight_74 : decode cX11_drawNight 74 = .ok (.getfield 20, 3) := dk_180 rfl rfl rfl rfl
theorem dX11_drawNight_77 : decode cX11_drawNight 77 = .ok (.bipush 114, 2) := dk_16 rfl rfl (by decide)
theorem dX11_drawNight_79 : decode cX11_drawNight 79 = .ok (.iconst 3, 1) := dk_6 rfl
theorem dX11_drawNight_80 : decode cX11_drawNight 80 = .ok (.iload_n 1, 1) := dk_27 rfl
theorem dX11_drawNight_81 : decode cX11_drawNight 81 = .ok (.imul, 1) := dk_104 rfl
theorem dX11_drawNight_82 : decode cX11_drawNight 82 = .ok (.iadd, 1) := dk_96 rfl
theorem dX11_drawNight_83 : decode cX11_drawNight 83 = .ok (.iconst 2, 1) := dk_5 rfl
theorem dX11_drawNight_84 : decode cX11_drawNight 84 = .ok (.iadd, 1) := dk_96 rfl
theorem dX11_drawNight_85 : decode cX11_drawNight 85 = .ok (.iaload, 1) := dk_46 rfl
theorem dX11_drawNight_86 : decode cX11_drawNight 86 = .ok (.iconst 1, 1) := dk_4 rfl
theorem dX11_drawNight_87 : decode cX11_drawNight 87 = .ok (.iadd, 1) := dk_96 rfl
theorem dX11_drawNight_88 : decode cX11_drawNight 88 = .ok (.irem, 1) := dk_112 rfl
theorem dX11_drawNight_89 : decode cX11_drawNight 89 = .ok (.iastore, 1) := dk_79 rfl
theorem dX11_drawNight_90 : decode cX11_drawNight 90 = .ok (.aload_n 0, 1) := dk_42 rfl
theorem dX11_drawNight_91 : decode cX11_drawNight 91 = .ok (.iload_n 1, 1) := dk_27 rfl
theorem dX11_drawNight_92 : decode cX11_drawNight 92 = .ok (.invokevirtual 367, 3) := dk_182 rfl rfl rfl rfl
theorem dX11_drawNight_95 : decode cX11_drawNight 95 = .ok (.iconst 0, 1) := dk_3 rfl
theorem dX11_drawNight_96 : decode cX11_drawNight 96 = .ok (.istore 4, 2) := dk_54 rfl rfl rfl
theorem dX11_drawNight_98 : decode cX11_drawNight 98 = .ok (.iload 4, 2) := by decide +kernel
theorem dX11_drawNight_100 : decode cX11_drawNight 100 = .ok (.aload_n 0, 1) := by decide +kernel
theorem dX11_drawNight_101 : decode cX11_drawNight 101 = .ok (.getfield 20, 3) := by decide +kernel
theorem dX11_drawNight_104 : decode cX11_drawNight 104 = .ok (.bipush 10, 2) := by decide +kernel
theorem dX11_drawNight_106 : decode cX11_drawNight 106 = .ok (.iaload, 1) := by decide +kernel
theorem dX11_drawNight_107 : decode cX11_drawNight 107 = .ok (.if_icmp .ge 84, 3) := by decide +kernel
theorem dX11_drawNight_110 : decode cX11_drawNight 110 = .ok (.aload_n 0, 1) := by decide +kernel
theorem dX11_drawNight_111 : decode cX11_drawNight 111 = .ok (.getfield 20, 3) := by decide +kernel
theorem dX11_drawNight_114 : decode cX11_drawNight 114 = .ok (.bipush 96, 2) := by decide +kernel
theorem dX11_drawNight_116 : decode cX11_drawNight 116 = .ok (.iconst 3, 1) := by decide +kernel
theorem dX11_drawNight_117 : decode cX11_drawNight 117 = .ok (.iload 4, 2) := by decide +kernel
theorem dX11_drawNight_119 : decode cX11_drawNight 119 = .ok (.imul, 1) := by decide +kernel
theorem dX11_drawNight_120 : decode cX11_drawNight 120 = .ok (.iadd, 1) := by decide +kernel
theorem dX11_drawNight_121 : decode cX11_drawNight 121 = .ok (.iaload, 1) := by decide +kernel
theorem dX11_drawNight_122 : decode cX11_drawNight 122 = .ok (.aload_n 0, 1) := by decide +kernel
theorem dX11_drawNight_123 : decode cX11_drawNight 123 = .ok (.iload_n 3, 1) := by decide +kernel
theorem dX11_drawNight_124 : decode cX11_drawNight 124 = .ok (.invokevirtual 324, 3) := by decide +kernel
theorem dX11_drawNight_127 : decode cX11_drawNight 127 = .ok (.if_icmp .ne 58, 3) := by decide +kernel
theorem dX11_drawNight_130 : decode cX11_drawNight 130 = .ok (.aload_n 0, 1) := by decide +kernel
theorem dX11_drawNight_131 : decode cX11_drawNight 131 = .ok (.iload 4, 2) := by decide +kernel
theorem dX11_drawNight_133 : decode cX11_drawNight 133 = .ok (.invokevirtual 339, 3) := by decide +kernel
theorem dX11_drawNight_136 : decode cX11_drawNight 136 = .ok (.ifCond .eq 6, 3) := by decide +kernel
theorem dX11_drawNight_139 : decode cX11_drawNight 139 = .ok (.goto 46, 3) := by decide +kernel
theorem dX11_drawNight_142 : decode cX11_drawNight 142 = .ok (.aload_n 0, 1) := by decide +kernel
theorem dX11_drawNight_143 : decode cX11_drawNight 143 = .ok (.dup, 1) := by decide +kernel
theorem dX11_drawNight_144 : decode cX11_drawNight 144 = .ok (.getfield 462, 3) := by decide +kernel
theorem dX11_drawNight_147 : decode cX11_drawNight 147 = .ok (.aload_n 0, 1) := by decide +kernel
theorem dX11_drawNight_148 : decode cX11_drawNight 148 = .ok (.invokevirtual 465, 3) := by decide +kernel
theorem dX11_drawNight_151 : decode cX11_drawNight 151 = .ok (.bipush 100, 2) := by decide +kernel
theorem dX11_drawNight_153 : decode cX11_drawNight 153 = .ok (.irem, 1) := by decide +kernel
theorem dX11_drawNight_154 : decode cX11_drawNight 154 = .ok (.aload_n 0, 1) := by decide +kernel
theorem dX11_drawNight_155 : decode cX11_drawNight 155 = .ok (.getfield 20, 3) := by decide +kernel
theorem dX11_drawNight_158 : decode cX11_drawNight 158 = .ok (.bipush 96, 2) := by decide +kernel
theorem dX11_drawNight_160 : decode cX11_drawNight 160 = .ok (.iconst 3, 1) := by decide +kernel
theorem dX11_drawNight_161 : decode cX11_drawNight 161 = .ok (.iload 4, 2) := by decide +kernel
theorem dX11_drawNight_163 : decode cX11_drawNight 163 = .ok (.imul, 1) := by decide +kernel
theorem dX11_drawNight_164 : decode cX11_drawNight 164 = .ok (.iadd, 1) := by decide +kernel
theorem dX11_drawNight_165 : decode cX11_drawNight 165 = .ok (.iconst 2, 1) := by decide +kernel
theorem dX11_drawNight_166 : decode cX11_drawNight 166 = .ok (.iadd, 1) := by decide +kernel
theorem dX11_drawNight_167 : decode cX11_drawNight 167 = .ok (.iaload, 1) := by decide +kernel
theorem dX11_drawNight_168 : decode cX11_drawNight 168 = .ok (.if_icmp .ge 12, 3) := by decide +kernel
theorem dX11_drawNight_171 : decode cX11_drawNight 171 = .ok (.aload_n 0, 1) := by decide +kernel
theorem dX11_drawNight_172 : decode cX11_drawNight 172 = .ok (.getfield 20, 3) := by decide +kernel
theorem dX11_drawNight_175 : decode cX11_drawNight 175 = .ok (.iconst 5, 1) := by decide +kernel
theorem dX11_drawNight_176 : decode cX11_drawNight 176 = .ok (.iaload, 1) := by decide +kernel
theorem dX11_drawNight_177 : decode cX11_drawNight 177 = .ok (.goto 4, 3) := by decide +kernel
theorem dX11_drawNight_180 : decode cX11_drawNight 180 = .ok (.iconst 0, 1) := by decide +kernel
theorem dX11_drawNight_181 : decode cX11_drawNight 181 = .ok (.iadd, 1) := by decide +kernel
theorem dX11_drawNight_182 : decode cX11_drawNight 182 = .ok (.putfield 462, 3) := by decide +kernel
theorem dX11_drawNight_185 : decode cX11_drawNight 185 = .ok (.iinc 4 1, 3) := by decide +kernel
theorem dX11_drawNight_188 : decode cX11_drawNight 188 = .ok (.goto (-90), 3) := by decide +kernel
theorem dX11_drawNight_191 : decode cX11_drawNight 191 = .ok (.iinc 3 1, 3) := by decide +kernel
theorem dX11_drawNight_194 : decode cX11_drawNight 194 = .ok (.goto (-151), 3) := by decide +kernel
theorem dX11_drawNight_197 : decode cX11_drawNight 197 = .ok (.return_, 1) := by decide +kernel
set_option maxHeartbeats 4000000 in
set_option maxRecDepth 100000 in
theorem m_drawNight (l : Launch) (g : Gx) (h0 : Nat) (p0 : Int32) (m_thrown : Int32) (a_tape : Nat) (m_taped : Int32) (m_size : Int32) (m_at : Int32) (m_end : Int32) (m_token : Int32) (m_whole : Int32) (m_nameSize : Int32) (m_fault : Int32) (m_place : Int32) (m_trouble : Int32) (a_letters : Nat) (m_failed : Int32) (m_hasHouse : Int32) (a_r : Nat) (a_fresh : Nat) (a_st : Nat) (a_undone : Nat) (a_kept : Nat) (m_undos : Int32) (m_images : Int32) (a_from : Nat) (a_begin : Nat) (a_motor : Nat) (a_change : Nat) (a_startFrame : Nat) (a_changeFrame : Nat) (a_lostAt : Nat) (a_blackAt : Nat) (a_slips : Nat) (a_leftArc : Nat) (a_died : Nat) (a_arcs : Nat) (m_bestSum : Int32) (m_nearest : Int32) (m_nearestTown : Int32) (a_there : Nat) (a_backAt : Nat) (a_sorted : Nat) (a_parts : Nat) (m_seed1 : Int32) (m_darkNow : Int32) (d_r : Nat → Int32) (d_st : Nat → Int32) (d_from : Nat → Int32) (d_begin : Nat → Int32) (d_motor : Nat → Int32) (d_change : Nat → Int32) (d_startFrame : Nat → Int32) (d_changeFrame : Nat → Int32) (d_lostAt : Nat → Int32) (d_blackAt : Nat → Int32) (d_slips : Nat → Int32) (hv_p0 : IV p0 0 3) (hp_d_r : RInv d_r) : cV l g yX11_drawNight cX11_drawNight 5 4 88 0 0 [.ref h0, .int p0] [(cO11_i1r1i10r1i2r5i2r12i3r4i2 h0 m_thrown a_tape m_taped m_size m_at m_end m_token m_whole m_nameSize m_fault m_place m_trouble a_letters m_failed m_hasHouse a_r a_fresh a_st a_undone a_kept m_undos m_images a_from a_begin a_motor a_change a_startFrame a_changeFrame a_lostAt a_blackAt a_slips a_leftArc a_died a_arcs m_bestSum m_nearest m_nearestTown a_there a_backAt a_sorted a_parts m_seed1 m_darkNow), (cAI g a_r 311 d_r), (cAI g a_st 44 d_st), (cAI g a_from 8 d_from), (cAI g a_begin 8 d_begin), (cAI g a_motor 8 d_motor), (cAI g a_change 8 d_change), (cAI g a_startFrame 8 d_startFrame), (cAI g a_changeFrame 8 d_changeFrame), (cAI g a_lostAt 8 d_lostAt), (cAI g a_blackAt 8 d_blackAt), (cAI g a_slips 8 d_slips)] (fun w => ∃ (d_begin2 : Nat → Int32) (d_blackAt2 : Nat → Int32) (d_change2 : Nat → Int32) (d_changeFrame2 : Nat → Int32) (m_darkNow2 : Int32) (d_from2 : Nat → Int32) (d_lostAt2 : Nat → Int32) (d_motor2 : Nat → Int32) (m_seed12 : Int32) (d_slips2 : Nat → Int32) (d_startFrame2 : Nat → Int32), w = [(cO11_i1r1i10r1i2r5i2r12i3r4i2 h0 m_thrown a_tape m_taped m_size m_at m_end m_token m_whole m_nameSize m_fault m_place m_trouble a_letters m_failed m_hasHouse a_r a_fresh a_st a_undone a_kept m_undos m_images a_from a_begin a_motor a_change a_startFrame a_changeFrame a_lostAt a_blackAt a_slips a_leftArc a_died a_arcs m_bestSum m_nearest m_nearestTown a_there a_backAt a_sorted a_parts m_seed12 m_darkNow2), (cAI g a_r 311 d_r), (cAI g a_st 44 d_st), (cAI g a_from 8 d_from2), (cAI g a_begin 8 d_begin2), (cAI g a_motor 8 d_motor2), (cAI g a_change 8 d_change2), (cAI g a_startFrame 8 d_startFrame2), (cAI g a_changeFrame 8 d_changeFrame2), (cAI g a_lostAt 8 d_lostAt2), (cAI g a_blackAt 8 d_blackAt2), (cAI g a_slips 8 d_slips2)]) := by
  refine cV.of (by decide) (Nat.le_of_ble_eq_true rfl) ?_
  intro p e s m args below meth c A X hr hi
  refine k_lveq [(0, .ref h0), (1, .int p0)] rfl ?_
  refine k_aload_n X dX11_drawNight_0 0 rfl ?_
  refine k_get (ci := 11) X inlX11 rfl 15 (by decide) dX11_drawNight_1 mw170 0 rfl rfl ?_
  refine k_bipush (v := 12) X dX11_drawNight_4 (by decide) ?_
  refine k_iald X dX11_drawNight_6 1 rfl (by unfold vp_in; decide) ?_
  refine k_nm (fun z_1 ez_1 => ?_)
  have i_2 : z_1.toInt = (d_r 12).toInt := by rw [ez_1]; rfl
  have iv_3 : IV z_1 0 8 := rb_12 ez_1 hp_d_r
  refine k_iconst (v := 1) X dX11_drawNight_7 (by decide) ?_
  refine k_isub X dX11_drawNight_8 ?_
  refine k_nm (fun z_4 ez_4 => ?_)
  have i_5 : z_4.toInt = z_1.toInt - 1 := in_sub ez_4 iv_3 (show IV 1 1 1 from (by decide)) (by decide) (by decide)
  have iv_6 : IV z_4 (-1) 7 := iz5 i_5 iv_3 (by decide) (by decide)
  refine k_istore_n [(2, .int z_4), (0, .ref h0), (1, .int p0)] X dX11_drawNight_9 (by decide) rfl ?_
  refine k_iconst (v := 0) X dX11_drawNight_10 (by decide) ?_
  refine k_istore_n [(3, .int 0), (2, .int z_4), (0, .ref h0), (1, .int p0)] X dX11_drawNight_11 (by decide) rfl ?_
  refine (fun hL : ∀ (nn_10 : Nat) (uf_7 : Nat → Int32) (u_8 : Int32), (8 - u_8.toInt).toNat = nn_10 → (IV u_8 0 8) → Wk p l e _ s m args below meth c _ A g _ _ _ [(cO11_i1r1i10r1i2r5i2r12i3r4i2 h0 m_thrown a_tape m_taped m_size m_at m_end m_token m_whole m_nameSize m_fault m_place m_trouble a_letters m_failed m_hasHouse a_r a_fresh a_st a_undone a_kept m_undos m_images a_from a_begin a_motor a_change a_startFrame a_changeFrame a_lostAt a_blackAt a_slips a_leftArc a_died a_arcs m_bestSum m_nearest m_nearestTown a_there a_backAt a_sorted a_parts m_seed1 m_darkNow), (cAI g a_r 311 d_r), (cAI g a_st 44 d_st), (cAI g a_from 8 d_from), (cAI g a_begin 8 d_begin), (cAI g a_motor 8 d_motor), (cAI g a_change 8 d_change), (cAI g a_startFrame 8 d_startFrame), (cAI g a_changeFrame 8 d_changeFrame), (cAI g a_lostAt 8 d_lostAt), (cAI g a_blackAt 8 d_blackAt), (cAI g a_slips 8 uf_7)] [(3, .int u_8), (2, .int z_4), (0, .ref h0), (1, .int p0)] 12 [] => hL _ d_slips 0 rfl (iv_w (show IV 0 0 0 from (by decide)) (by decide) (by decide))) ?_
  refine fun nn_10 => Nat.strongRecOn nn_10 (fun nn_10 ih_12 => ?_)
  intro uf_7 u_8 hm_11 hv_9
  refine k_iload_n X dX11_drawNight_12 0 rfl ?_
  refine k_bipush (v := 8) X dX11_drawNight_13 (by decide) ?_
  refine k_ic_ge 31 X dX11_drawNight_15 (by decide) (fun h_13 => ?_) (fun h_13 => ?_)
  · skip
    have j_14 : 8 ≤ u_8.toInt := iv_le h_13
    have iv_15 : IV u_8 8 8 := iv_leR (iv_le h_13) (show IV 8 8 8 from (by decide)) hv_9 (by decide)
    refine k_aload_n X dX11_drawNight_31 2 rfl ?_
    refine k_iload_n X dX11_drawNight_32 3 rfl ?_
    refine k_callVV (n := 1) (As := [.int p0]) (st := []) X [(cO11_i1r1i10r1i2r5i2r12i3r4i2 h0 m_thrown a_tape m_taped m_size m_at m_end m_token m_whole m_nameSize m_fault m_place m_trouble a_letters m_failed m_hasHouse a_r a_fresh a_st a_undone a_kept m_undos m_images a_from a_begin a_motor a_change a_startFrame a_changeFrame a_lostAt a_blackAt a_slips a_leftArc a_died a_arcs m_bestSum m_nearest m_nearestTown a_there a_backAt a_sorted a_parts m_seed1 m_darkNow), (cAI g a_r 311 d_r), (cAI g a_st 44 d_st), (cAI g a_from 8 d_from), (cAI g a_begin 8 d_begin), (cAI g a_motor 8 d_motor), (cAI g a_change 8 d_change), (cAI g a_startFrame 8 d_startFrame), (cAI g a_changeFrame 8 d_changeFrame), (cAI g a_lostAt 8 d_lostAt), (cAI g a_blackAt 8 d_blackAt), (cAI g a_slips 8 uf_7)] [] [0, 1, 2, 3, 4, 5, 6, 7, 8, 9, 10, 11] [] (m_layNight l g h0 p0 m_thrown a_tape m_taped m_size m_at m_end m_token m_whole m_nameSize m_fault m_place m_trouble a_letters m_failed m_hasHouse a_r a_fresh a_st a_undone a_kept m_undos m_images a_from a_begin a_motor a_change a_startFrame a_changeFrame a_lostAt a_blackAt a_slips a_leftArc a_died a_arcs m_bestSum m_nearest m_nearestTown a_there a_backAt a_sorted a_parts m_seed1 m_darkNow d_r d_st d_from d_begin d_motor d_change d_startFrame d_changeFrame d_lostAt d_blackAt uf_7 (iv_w hv_p0 (by decide) (by decide)) hp_d_r) dX11_drawNight_33 mw819 mw820 mw821 mw5 mw822 rfl 11 rfl rfl 0 _ rfl yk_yX11_layNight_1 rfl (Nat.le_of_ble_eq_true rfl) (Nat.le_of_ble_eq_true rfl) (Nat.le_of_ble_eq_true rfl) (Nat.le_of_ble_eq_true rfl) (Nat.le_of_ble_eq_true rfl) rfl rfl (by decide +kernel) rfl (by decide +kernel) (by decide +kernel) ?_
    rintro w ⟨d_begin2_16, d_blackAt2_17, d_change2_18, d_changeFrame2_19, d_from2_20, d_lostAt2_21, d_motor2_22, d_startFrame2_23, rfl⟩
    refine k_ws [(cO11_i1r1i10r1i2r5i2r12i3r4i2 h0 m_thrown a_tape m_taped m_size m_at m_end m_token m_whole m_nameSize m_fault m_place m_trouble a_letters m_failed m_hasHouse a_r a_fresh a_st a_undone a_kept m_undos m_images a_from a_begin a_motor a_change a_startFrame a_changeFrame a_lostAt a_blackAt a_slips a_leftArc a_died a_arcs m_bestSum m_nearest m_nearestTown a_there a_backAt a_sorted a_parts m_seed1 m_darkNow), (cAI g a_r 311 d_r), (cAI g a_st 44 d_st), (cAI g a_from 8 d_from2_20), (cAI g a_begin 8 d_begin2_16), (cAI g a_motor 8 d_motor2_22), (cAI g a_change 8 d_change2_18), (cAI g a_startFrame 8 d_startFrame2_23), (cAI g a_changeFrame 8 d_changeFrame2_19), (cAI g a_lostAt 8 d_lostAt2_21), (cAI g a_blackAt 8 d_blackAt2_17), (cAI g a_slips 8 uf_7)] rfl ?_
    refine k_aload_n X dX11_drawNight_36 2 rfl ?_
    refine k_iconst (v := 0) X dX11_drawNight_37 (by decide) ?_
    refine k_put (ci := 11) [(cO11_i1r1i10r1i2r5i2r12i3r4i2 h0 m_thrown a_tape m_taped m_size m_at m_end m_token m_whole m_nameSize m_fault m_place m_trouble a_letters m_failed m_hasHouse a_r a_fresh a_st a_undone a_kept m_undos m_images a_from a_begin a_motor a_change a_startFrame a_changeFrame a_lostAt a_blackAt a_slips a_leftArc a_died a_arcs m_bestSum m_nearest m_nearestTown a_there a_backAt a_sorted a_parts m_seed1 0), (cAI g a_r 311 d_r), (cAI g a_st 44 d_st), (cAI g a_from 8 d_from2_20), (cAI g a_begin 8 d_begin2_16), (cAI g a_motor 8 d_motor2_22), (cAI g a_change 8 d_change2_18), (cAI g a_startFrame 8 d_startFrame2_23), (cAI g a_changeFrame 8 d_changeFrame2_19), (cAI g a_lostAt 8 d_lostAt2_21), (cAI g a_blackAt 8 d_blackAt2_17), (cAI g a_slips 8 uf_7)] X inlX11 rfl tyX11_ok nmX11 42 (by decide) rfl dX11_drawNight_38 mw1422 0 rfl rfl rfl (Nat.le_of_ble_eq_true rfl) rfl ?_
    refine k_iconst (v := 0) X dX11_drawNight_41 (by decide) ?_
    refine k_istore_n [(3, .int 0), (2, .int z_4), (0, .ref h0), (1, .int p0)] X dX11_drawNight_42 (by decide) rfl ?_
    refine (fun hL : ∀ (nn_38 : Nat) (uf_25 : Nat → Int32) (uf_26 : Nat → Int32) (uf_27 : Nat → Int32) (uf_28 : Nat → Int32) (uf_29 : Nat → Int32) (uf_30 : Nat → Int32) (uf_31 : Nat → Int32) (uf_32 : Nat → Int32) (uf_33 : Nat → Int32) (u_34 : Int32) (u_36 : Int32) (u_37 : Int32), (z_4.toInt + 1 - u_34.toInt).toNat = nn_38 → (IV u_34 0 8) → Wk p l e _ s m args below meth c _ A g _ _ _ [(cO11_i1r1i10r1i2r5i2r12i3r4i2 h0 m_thrown a_tape m_taped m_size m_at m_end m_token m_whole m_nameSize m_fault m_place m_trouble a_letters m_failed m_hasHouse a_r a_fresh a_st a_undone a_kept m_undos m_images a_from a_begin a_motor a_change a_startFrame a_changeFrame a_lostAt a_blackAt a_slips a_leftArc a_died a_arcs m_bestSum m_nearest m_nearestTown a_there a_backAt a_sorted a_parts u_36 u_37), (cAI g a_r 311 d_r), (cAI g a_st 44 d_st), (cAI g a_from 8 uf_29), (cAI g a_begin 8 uf_25), (cAI g a_motor 8 uf_31), (cAI g a_change 8 uf_27), (cAI g a_startFrame 8 uf_33), (cAI g a_changeFrame 8 uf_28), (cAI g a_lostAt 8 uf_30), (cAI g a_blackAt 8 uf_26), (cAI g a_slips 8 uf_32)] [(3, .int u_34), (2, .int z_4), (0, .ref h0), (1, .int p0)] 43 [] => hL _ d_begin2_16 d_blackAt2_17 d_change2_18 d_changeFrame2_19 d_from2_20 d_lostAt2_21 d_motor2_22 uf_7 d_startFrame2_23 0 m_seed1 0 rfl (iv_w (show IV 0 0 0 from (by decide)) (by decide) (by decide))) ?_
    refine fun nn_38 => Nat.strongRecOn nn_38 (fun nn_38 ih_40 => ?_)
    intro uf_25 uf_26 uf_27 uf_28 uf_29 uf_30 uf_31 uf_32 uf_33 u_34 u_36 u_37 hm_39 hv_35
    refine k_iload_n X dX11_drawNight_43 0 rfl ?_
    refine k_iload_n X dX11_drawNight_44 1 rfl ?_
    refine k_ic_gt 197 X dX11_drawNight_45 (by decide) (fun h_41 => ?_) (fun h_41 => ?_)
    · skip
      have j_42 : z_4.toInt < u_34.toInt := iv_lt h_41
      exact k_vret X hr dX11_drawNight_197 (Nat.le_of_ble_eq_true rfl) (Nat.le_of_ble_eq_true rfl) [0, 1, 2, 3, 4, 5, 6, 7, 8, 9, 10, 11] (by decide) rfl rfl ⟨uf_25, uf_26, uf_27, uf_28, u_37, uf_29, uf_30, uf_31, u_36, uf_32, uf_33, rfl⟩
    · skip
      have j_43 : u_34.toInt ≤ z_4.toInt := iv_nlt h_41
      have iv_44 : IV u_34 0 7 := iv_leL (iv_nlt h_41) hv_35 iv_6 (by decide)
      have iv_45 : IV z_4 0 7 := iv_leR (iv_nlt h_41) hv_35 iv_6 (by decide)
      have iv_46 : IV z_1 1 8 := by have := iv_3; have := iv_45; rw [IV]; omega
      refine k_aload_n X dX11_drawNight_48 2 rfl ?_
      refine k_iload_n X dX11_drawNight_49 0 rfl ?_
      refine k_callVI (n := 1) (As := [.int u_34]) (st := []) X [(cO11_i1r1i10r1i2r5i2r12i3r4i2 h0 m_thrown a_tape m_taped m_size m_at m_end m_token m_whole m_nameSize m_fault m_place m_trouble a_letters m_failed m_hasHouse a_r a_fresh a_st a_undone a_kept m_undos m_images a_from a_begin a_motor a_change a_startFrame a_changeFrame a_lostAt a_blackAt a_slips a_leftArc a_died a_arcs m_bestSum m_nearest m_nearestTown a_there a_backAt a_sorted a_parts u_36 u_37), (cAI g a_r 311 d_r), (cAI g a_st 44 d_st), (cAI g a_from 8 uf_29)] [(cAI g a_begin 8 uf_25), (cAI g a_motor 8 uf_31), (cAI g a_change 8 uf_27), (cAI g a_startFrame 8 uf_33), (cAI g a_changeFrame 8 uf_28), (cAI g a_lostAt 8 uf_30), (cAI g a_blackAt 8 uf_26), (cAI g a_slips 8 uf_32)] [0, 1, 2, 3] [4, 5, 6, 7, 8, 9, 10, 11] (m_isGone l g h0 u_34 m_thrown a_tape m_taped m_size m_at m_end m_token m_whole m_nameSize m_fault m_place m_trouble a_letters m_failed m_hasHouse a_r a_fresh a_st a_undone a_kept m_undos m_images a_from a_begin a_motor a_change a_startFrame a_changeFrame a_lostAt a_blackAt a_slips a_leftArc a_died a_arcs m_bestSum m_nearest m_nearestTown a_there a_backAt a_sorted a_parts u_36 u_37 d_r d_st uf_29 (iv_w iv_44 (by decide) (by decide)) hp_d_r) dX11_drawNight_50 mw827 mw828 mw829 mw5 mw830 rfl 11 rfl rfl 0 _ rfl yk_yX11_isGone_1 rfl (Nat.le_of_ble_eq_true rfl) (Nat.le_of_ble_eq_true rfl) (Nat.le_of_ble_eq_true rfl) (Nat.le_of_ble_eq_true rfl) (Nat.le_of_ble_eq_true rfl) rfl rfl (by decide +kernel) rfl (by decide +kernel) (by decide +kernel) ?_
      rintro r_47 w ⟨iv_48, rfl⟩
      refine k_ws [(cAI g a_begin 8 uf_25), (cAI g a_motor 8 uf_31), (cAI g a_change 8 uf_27), (cAI g a_startFrame 8 uf_33), (cAI g a_changeFrame 8 uf_28), (cAI g a_lostAt 8 uf_30), (cAI g a_blackAt 8 uf_26), (cAI g a_slips 8 uf_32), (cO11_i1r1i10r1i2r5i2r12i3r4i2 h0 m_thrown a_tape m_taped m_size m_at m_end m_token m_whole m_nameSize m_fault m_place m_trouble a_letters m_failed m_hasHouse a_r a_fresh a_st a_undone a_kept m_undos m_images a_from a_begin a_motor a_change a_startFrame a_changeFrame a_lostAt a_blackAt a_slips a_leftArc a_died a_arcs m_bestSum m_nearest m_nearestTown a_there a_backAt a_sorted a_parts u_36 u_37), (cAI g a_r 311 d_r), (cAI g a_st 44 d_st), (cAI g a_from 8 uf_29)] rfl ?_
      refine k_if_eq 59 X dX11_drawNight_53 (by decide) (fun h_49 => ?_) (fun h_49 => ?_)
      · skip
        have iv_50 : IV r_47 0 0 := iv_meet iv_48 (iv_e h_49 (show IV 0 0 0 from (by decide))) (by decide) (by decide)
        refine k_iload_n X dX11_drawNight_59 0 rfl ?_
        refine k_iload_n X dX11_drawNight_60 1 rfl ?_
        refine k_ic_ge 95 X dX11_drawNight_61 (by decide) (fun h_51 => ?_) (fun h_51 => ?_)
        · skip
          have j_52 : z_4.toInt ≤ u_34.toInt := iv_le h_51
          refine k_iconst (v := 0) X dX11_drawNight_95 (by decide) ?_
          refine k_istore [(4, .int 0), (3, .int u_34), (2, .int z_4), (0, .ref h0), (1, .int p0)] X dX11_drawNight_96 (by decide) rfl ?_
          refine (fun hL : ∀ (nn_57 : Nat) (u_53 : Int32) (u_55 : Int32) (u_56 : Int32), (2147483647 - u_53.toInt).toNat = nn_57 → (IV u_53 0 8) → Wk p l e _ s m args below meth c _ A g _ _ _ [(cAI g a_begin 8 uf_25), (cAI g a_motor 8 uf_31), (cAI g a_change 8 uf_27), (cAI g a_startFrame 8 uf_33), (cAI g a_changeFrame 8 uf_28), (cAI g a_lostAt 8 uf_30), (cAI g a_blackAt 8 uf_26), (cAI g a_slips 8 uf_32), (cO11_i1r1i10r1i2r5i2r12i3r4i2 h0 m_thrown a_tape m_taped m_size m_at m_end m_token m_whole m_nameSize m_fault m_place m_trouble a_letters m_failed m_hasHouse a_r a_fresh a_st a_undone a_kept m_undos m_images a_from a_begin a_motor a_change a_startFrame a_changeFrame a_lostAt a_blackAt a_slips a_leftArc a_died a_arcs m_bestSum m_nearest m_nearestTown a_there a_backAt a_sorted a_parts u_55 u_56), (cAI g a_r 311 d_r), (cAI g a_st 44 d_st), (cAI g a_from 8 uf_29)] [(4, .int u_53), (3, .int u_34), (2, .int z_4), (0, .ref h0), (1, .int p0)] 98 [] => hL _ 0 u_36 u_37 rfl (iv_w (show IV 0 0 0 from (by decide)) (by decide) (by decide))) ?_
          refine fun nn_57 => Nat.strongRecOn nn_57 (fun nn_57 ih_59 => ?_)
          intro u_53 u_55 u_56 hm_58 hv_54
          refine k_iload X dX11_drawNight_98 0 rfl ?_
          refine k_aload_n X dX11_drawNight_100 3 rfl ?_
          refine k_get (ci := 11) X inlX11 rfl 15 (by decide) dX11_drawNight_101 mw170 8 rfl rfl ?_
          refine k_bipush (v := 10) X dX11_drawNight_104 (by decide) ?_
          refine k_iald X dX11_drawNight_106 9 rfl (by unfold vp_in; decide) ?_
          refine k_nm (fun z_60 ez_60 => ?_)
          have i_61 : z_60.toInt = (d_r 10).toInt := by rw [ez_60]; rfl
          have iv_62 : IV z_60 0 6 := rb_10 ez_60 hp_d_r
          refine k_ic_ge 191 X dX11_drawNight_107 (by decide) (fun h_63 => ?_) (fun h_63 => ?_)
          · skip
            have j_64 : z_60.toInt ≤ u_53.toInt := iv_le h_63
            obtain ⟨z_65, ez_65⟩ : ∃ y : Int32, u_34 + Int32.ofInt 1 = y := ⟨_, rfl⟩
            refine k_iinc z_65 [(3, .int z_65), (4, .int u_53), (2, .int z_4), (0, .ref h0), (1, .int p0)] 1 X dX11_drawNight_191 rfl ez_65 (by decide) rfl ?_
            have i_66 : z_65.toInt = u_34.toInt + 1 := in_inc ez_65 (by decide) iv_44 (by decide) (by decide)
            have iv_67 : IV z_65 1 8 := iz1 i_66 iv_44 (by decide) (by decide)
            refine k_goto 43 X dX11_drawNight_194 (by decide) ?_
            refine k_lv [(3, .int z_65), (2, .int z_4), (0, .ref h0), (1, .int p0)] [0, 2, 3, 4] rfl ?_
            refine k_sub [(cO11_i1r1i10r1i2r5i2r12i3r4i2 h0 m_thrown a_tape m_taped m_size m_at m_end m_token m_whole m_nameSize m_fault m_place m_trouble a_letters m_failed m_hasHouse a_r a_fresh a_st a_undone a_kept m_undos m_images a_from a_begin a_motor a_change a_startFrame a_changeFrame a_lostAt a_blackAt a_slips a_leftArc a_died a_arcs m_bestSum m_nearest m_nearestTown a_there a_backAt a_sorted a_parts u_55 u_56), (cAI g a_r 311 d_r), (cAI g a_st 44 d_st), (cAI g a_from 8 uf_29), (cAI g a_begin 8 uf_25), (cAI g a_motor 8 uf_31), (cAI g a_change 8 uf_27), (cAI g a_startFrame 8 uf_33), (cAI g a_changeFrame 8 uf_28), (cAI g a_lostAt 8 uf_30), (cAI g a_blackAt 8 uf_26), (cAI g a_slips 8 uf_32)] [8, 9, 10, 11, 0, 1, 2, 3, 4, 5, 6, 7] rfl (by decide) rfl ?_
            exact ih_40 _ (by omega) uf_25 uf_26 uf_27 uf_28 uf_29 uf_30 uf_31 uf_32 uf_33 z_65 u_55 u_56 rfl (iv_w iv_67 (by decide) (by decide))
          · skip
            have j_68 : u_53.toInt < z_60.toInt := iv_nle h_63
            have iv_69 : IV u_53 0 5 := iv_ltL (iv_nle h_63) hv_54 iv_62 (by decide)
            have iv_70 : IV z_60 1 6 := iv_ltR (iv_nle h_63) hv_54 iv_62 (by decide)
            refine k_aload_n X dX11_drawNight_110 3 rfl ?_
            refine k_get (ci := 11) X inlX11 rfl 15 (by decide) dX11_drawNight_111 mw170 8 rfl rfl ?_
            refine k_bipush (v := 96) X dX11_drawNight_114 (by decide) ?_
            refine k_iconst (v := 3) X dX11_drawNight_116 (by decide) ?_
            refine k_iload X dX11_drawNight_117 0 rfl ?_
            refine k_imul X dX11_drawNight_119 ?_
            refine k_nm (fun z_71 ez_71 => ?_)
            have i_72 : z_71.toInt = 3 * u_53.toInt := in_mul ez_71 (by decide) (by decide) iv_69 (by decide) (by decide)
            have iv_73 : IV z_71 0 15 := iz4 i_72 iv_69 (by decide) (by decide) (by decide)
            refine k_iadd X dX11_drawNight_120 ?_
            refine k_nm (fun z_74 ez_74 => ?_)
            have i_75 : z_74.toInt = 96 + z_71.toInt := in_add ez_74 (show IV 96 96 96 from (by decide)) iv_73 (by decide) (by decide)
            have iv_76 : IV z_74 96 111 := iz2 i_75 iv_73 (by decide) (by decide)
            refine k_iald X dX11_drawNight_121 9 rfl (iv_in iv_76 (by decide) (by decide)) ?_
            refine k_nm (fun z_77 ez_77 => ?_)
            have i_78 : z_74.toInt = 96 + 3 * u_53.toInt := by omega
            have iv_79 : IV z_77 0 7 := rb_96_3 ez_77 hp_d_r i_78 (iv_w iv_69 (by decide) (by decide))
            refine k_aload_n X dX11_drawNight_122 3 rfl ?_
            refine k_iload_n X dX11_drawNight_123 1 rfl ?_
            refine k_callVI (n := 1) (As := [.int u_34]) (st := [.int z_77]) X [(cO11_i1r1i10r1i2r5i2r12i3r4i2 h0 m_thrown a_tape m_taped m_size m_at m_end m_token m_whole m_nameSize m_fault m_place m_trouble a_letters m_failed m_hasHouse a_r a_fresh a_st a_undone a_kept m_undos m_images a_from a_begin a_motor a_change a_startFrame a_changeFrame a_lostAt a_blackAt a_slips a_leftArc a_died a_arcs m_bestSum m_nearest m_nearestTown a_there a_backAt a_sorted a_parts u_55 u_56), (cAI g a_r 311 d_r)] [(cAI g a_begin 8 uf_25), (cAI g a_motor 8 uf_31), (cAI g a_change 8 uf_27), (cAI g a_startFrame 8 uf_33), (cAI g a_changeFrame 8 uf_28), (cAI g a_lostAt 8 uf_30), (cAI g a_blackAt 8 uf_26), (cAI g a_slips 8 uf_32), (cAI g a_st 44 d_st), (cAI g a_from 8 uf_29)] [8, 9] [0, 1, 2, 3, 4, 5, 6, 7, 10, 11] (m_reelAt l g h0 u_34 m_thrown a_tape m_taped m_size m_at m_end m_token m_whole m_nameSize m_fault m_place m_trouble a_letters m_failed m_hasHouse a_r a_fresh a_st a_undone a_kept m_undos m_images a_from a_begin a_motor a_change a_startFrame a_changeFrame a_lostAt a_blackAt a_slips a_leftArc a_died a_arcs m_bestSum m_nearest m_nearestTown a_there a_backAt a_sorted a_parts u_55 u_56 d_r (iv_w iv_44 (by decide) (by decide)) hp_d_r) dX11_drawNight_124 mw723 mw724 mw725 mw5 mw726 rfl 11 rfl rfl 0 _ rfl yk_yX11_reelAt_1 rfl (Nat.le_of_ble_eq_true rfl) (Nat.le_of_ble_eq_true rfl) (Nat.le_of_ble_eq_true rfl) (Nat.le_of_ble_eq_true rfl) (Nat.le_of_ble_eq_true rfl) rfl rfl (by decide +kernel) rfl (by decide +kernel) (by decide +kernel) ?_
            rintro r_80 w ⟨iv_81, rfl⟩
            refine k_ws [(cAI g a_begin 8 uf_25), (cAI g a_motor 8 uf_31), (cAI g a_change 8 uf_27), (cAI g a_startFrame 8 uf_33), (cAI g a_changeFrame 8 uf_28), (cAI g a_lostAt 8 uf_30), (cAI g a_blackAt 8 uf_26), (cAI g a_slips 8 uf_32), (cAI g a_st 44 d_st), (cAI g a_from 8 uf_29), (cO11_i1r1i10r1i2r5i2r12i3r4i2 h0 m_thrown a_tape m_taped m_size m_at m_end m_token m_whole m_nameSize m_fault m_place m_trouble a_letters m_failed m_hasHouse a_r a_fresh a_st a_undone a_kept m_undos m_images a_from a_begin a_motor a_change a_startFrame a_changeFrame a_lostAt a_blackAt a_slips a_leftArc a_died a_arcs m_bestSum m_nearest m_nearestTown a_there a_backAt a_sorted a_parts u_55 u_56), (cAI g a_r 311 d_r)] rfl ?_
            refine k_ic_ne 185 X dX11_drawNight_127 (by decide) (fun h_82 => ?_) (fun h_82 => ?_)
            · skip
              obtain ⟨z_83, ez_83⟩ : ∃ y : Int32, u_53 + Int32.ofInt 1 = y := ⟨_, rfl⟩
              refine k_iinc z_83 [(4, .int z_83), (3, .int u_34), (2, .int z_4), (0, .ref h0), (1, .int p0)] 0 X dX11_drawNight_185 rfl ez_83 (by decide) rfl ?_
              have i_84 : z_83.toInt = u_53.toInt + 1 := in_inc ez_83 (by decide) iv_69 (by decide) (by decide)
              have iv_85 : IV z_83 1 6 := iz1 i_84 iv_69 (by decide) (by decide)
              refine k_goto 98 X dX11_drawNight_188 (by decide) ?_
              refine k_sub [(cAI g a_begin 8 uf_25), (cAI g a_motor 8 uf_31), (cAI g a_change 8 uf_27), (cAI g a_startFrame 8 uf_33), (cAI g a_changeFrame 8 uf_28), (cAI g a_lostAt 8 uf_30), (cAI g a_blackAt 8 uf_26), (cAI g a_slips 8 uf_32), (cO11_i1r1i10r1i2r5i2r12i3r4i2 h0 m_thrown a_tape m_taped m_size m_at m_end m_token m_whole m_nameSize m_fault m_place m_trouble a_letters m_failed m_hasHouse a_r a_fresh a_st a_undone a_kept m_undos m_images a_from a_begin a_motor a_change a_startFrame a_changeFrame a_lostAt a_blackAt a_slips a_leftArc a_died a_arcs m_bestSum m_nearest m_nearestTown a_there a_backAt a_sorted a_parts u_55 u_56), (cAI g a_r 311 d_r), (cAI g a_st 44 d_st), (cAI g a_from 8 uf_29)] [0, 1, 2, 3, 4, 5, 6, 7, 10, 11, 8, 9] rfl (by decide) rfl ?_
              exact ih_59 _ (by omega) z_83 u_55 u_56 rfl (iv_w iv_85 (by decide) (by decide))
            · skip
              refine k_aload_n X dX11_drawNight_130 3 rfl ?_
              refine k_iload X dX11_drawNight_131 0 rfl ?_
              refine k_callVI (n := 1) (As := [.int u_53]) (st := []) X [(cO11_i1r1i10r1i2r5i2r12i3r4i2 h0 m_thrown a_tape m_taped m_size m_at m_end m_token m_whole m_nameSize m_fault m_place m_trouble a_letters m_failed m_hasHouse a_r a_fresh a_st a_undone a_kept m_undos m_images a_from a_begin a_motor a_change a_startFrame a_changeFrame a_lostAt a_blackAt a_slips a_leftArc a_died a_arcs m_bestSum m_nearest m_nearestTown a_there a_backAt a_sorted a_parts u_55 u_56), (cAI g a_st 44 d_st)] [(cAI g a_begin 8 uf_25), (cAI g a_motor 8 uf_31), (cAI g a_change 8 uf_27), (cAI g a_startFrame 8 uf_33), (cAI g a_changeFrame 8 uf_28), (cAI g a_lostAt 8 uf_30), (cAI g a_blackAt 8 uf_26), (cAI g a_slips 8 uf_32), (cAI g a_from 8 uf_29), (cAI g a_r 311 d_r)] [10, 8] [0, 1, 2, 3, 4, 5, 6, 7, 9, 11] (m_isMended l g h0 u_53 m_thrown a_tape m_taped m_size m_at m_end m_token m_whole m_nameSize m_fault m_place m_trouble a_letters m_failed m_hasHouse a_r a_fresh a_st a_undone a_kept m_undos m_images a_from a_begin a_motor a_change a_startFrame a_changeFrame a_lostAt a_blackAt a_slips a_leftArc a_died a_arcs m_bestSum m_nearest m_nearestTown a_there a_backAt a_sorted a_parts u_55 u_56 d_st) dX11_drawNight_133 mw682 mw683 mw684 mw5 mw685 rfl 11 rfl rfl 0 _ rfl yk_yX11_isMended_1 rfl (Nat.le_of_ble_eq_true rfl) (Nat.le_of_ble_eq_true rfl) (Nat.le_of_ble_eq_true rfl) (Nat.le_of_ble_eq_true rfl) (Nat.le_of_ble_eq_true rfl) rfl rfl (by decide +kernel) rfl (by decide +kernel) (by decide +kernel) ?_
              rintro r_86 w ⟨iv_87, rfl⟩
              refine k_ws [(cAI g a_begin 8 uf_25), (cAI g a_motor 8 uf_31), (cAI g a_change 8 uf_27), (cAI g a_startFrame 8 uf_33), (cAI g a_changeFrame 8 uf_28), (cAI g a_lostAt 8 uf_30), (cAI g a_blackAt 8 uf_26), (cAI g a_slips 8 uf_32), (cAI g a_from 8 uf_29), (cAI g a_r 311 d_r), (cO11_i1r1i10r1i2r5i2r12i3r4i2 h0 m_thrown a_tape m_taped m_size m_at m_end m_token m_whole m_nameSize m_fault m_place m_trouble a_letters m_failed m_hasHouse a_r a_fresh a_st a_undone a_kept m_undos m_images a_from a_begin a_motor a_change a_startFrame a_changeFrame a_lostAt a_blackAt a_slips a_leftArc a_died a_arcs m_bestSum m_nearest m_nearestTown a_there a_backAt a_sorted a_parts u_55 u_56), (cAI g a_st 44 d_st)] rfl ?_
              refine k_if_eq 142 X dX11_drawNight_136 (by decide) (fun h_88 => ?_) (fun h_88 => ?_)
              · skip
                have iv_89 : IV r_86 0 0 := iv_meet iv_87 (iv_e h_88 (show IV 0 0 0 from (by decide))) (by decide) (by decide)
                refine k_aload_n X dX11_drawNight_142 3 rfl ?_
                refine k_dup X dX11_drawNight_143 rfl ?_
                refine k_get (ci := 11) X inlX11 rfl 42 (by decide) dX11_drawNight_144 mw1422 10 rfl rfl ?_
                refine k_aload_n X dX11_drawNight_147 3 rfl ?_
                refine k_callVI (n := 0) (As := []) (st := [.int u_56, .ref h0]) X [(cO11_i1r1i10r1i2r5i2r12i3r4i2 h0 m_thrown a_tape m_taped m_size m_at m_end m_token m_whole m_nameSize m_fault m_place m_trouble a_letters m_failed m_hasHouse a_r a_fresh a_st a_undone a_kept m_undos m_images a_from a_begin a_motor a_change a_startFrame a_changeFrame a_lostAt a_blackAt a_slips a_leftArc a_died a_arcs m_bestSum m_nearest m_nearestTown a_there a_backAt a_sorted a_parts u_55 u_56)] [(cAI g a_begin 8 uf_25), (cAI g a_motor 8 uf_31), (cAI g a_change 8 uf_27), (cAI g a_startFrame 8 uf_33), (cAI g a_changeFrame 8 uf_28), (cAI g a_lostAt 8 uf_30), (cAI g a_blackAt 8 uf_26), (cAI g a_slips 8 uf_32), (cAI g a_from 8 uf_29), (cAI g a_r 311 d_r), (cAI g a_st 44 d_st)] [10] [0, 1, 2, 3, 4, 5, 6, 7, 8, 9, 11] (m_drawn l g h0 m_thrown a_tape m_taped m_size m_at m_end m_token m_whole m_nameSize m_fault m_place m_trouble a_letters m_failed m_hasHouse a_r a_fresh a_st a_undone a_kept m_undos m_images a_from a_begin a_motor a_change a_startFrame a_changeFrame a_lostAt a_blackAt a_slips a_leftArc a_died a_arcs m_bestSum m_nearest m_nearestTown a_there a_backAt a_sorted a_parts u_55 u_56) dX11_drawNight_148 mw1427 mw1428 mw1429 mw5 mw1430 rfl 11 rfl rfl 0 _ rfl yk_yX11_drawn_0 rfl (Nat.le_of_ble_eq_true rfl) (Nat.le_of_ble_eq_true rfl) (Nat.le_of_ble_eq_true rfl) (Nat.le_of_ble_eq_true rfl) (Nat.le_of_ble_eq_true rfl) rfl rfl (by decide +kernel) rfl (by decide +kernel) (by decide +kernel) ?_
                rintro r_91 w ⟨m_seed12_90, rfl⟩
                refine k_ws [(cAI g a_begin 8 uf_25), (cAI g a_motor 8 uf_31), (cAI g a_change 8 uf_27), (cAI g a_startFrame 8 uf_33), (cAI g a_changeFrame 8 uf_28), (cAI g a_lostAt 8 uf_30), (cAI g a_blackAt 8 uf_26), (cAI g a_slips 8 uf_32), (cAI g a_from 8 uf_29), (cAI g a_r 311 d_r), (cAI g a_st 44 d_st), (cO11_i1r1i10r1i2r5i2r12i3r4i2 h0 m_thrown a_tape m_taped m_size m_at m_end m_token m_whole m_nameSize m_fault m_place m_trouble a_letters m_failed m_hasHouse a_r a_fresh a_st a_undone a_kept m_undos m_images a_from a_begin a_motor a_change a_startFrame a_changeFrame a_lostAt a_blackAt a_slips a_leftArc a_died a_arcs m_bestSum m_nearest m_nearestTown a_there a_backAt a_sorted a_parts m_seed12_90 u_56)] rfl ?_
                refine k_bipush (v := 100) X dX11_drawNight_151 (by decide) ?_
                refine k_irem X dX11_drawNight_153 (by decide) ?_
                refine k_nm (fun z_92 ez_92 => ?_)
                refine k_aload_n X dX11_drawNight_154 3 rfl ?_
                refine k_get (ci := 11) X inlX11 rfl 15 (by decide) dX11_drawNight_155 mw170 11 rfl rfl ?_
                refine k_bipush (v := 96) X dX11_drawNight_158 (by decide) ?_
                refine k_iconst (v := 3) X dX11_drawNight_160 (by decide) ?_
                refine k_iload X dX11_drawNight_161 0 rfl ?_
                refine k_imul X dX11_drawNight_163 ?_
                refine k_to z_71 ez_71.symm ?_
                refine k_iadd X dX11_drawNight_164 ?_
                refine k_to z_74 ez_74.symm ?_
                refine k_iconst (v := 2) X dX11_drawNight_165 (by decide) ?_
                refine k_iadd X dX11_drawNight_166 ?_
                refine k_nm (fun z_93 ez_93 => ?_)
                have i_94 : z_93.toInt = z_74.toInt + 2 := in_add ez_93 iv_76 (show IV 2 2 2 from (by decide)) (by decide) (by decide)
                have iv_95 : IV z_93 98 113 := iz1 i_94 iv_76 (by decide) (by decide)
                refine k_iald X dX11_drawNight_167 9 rfl (iv_in iv_95 (by decide) (by decide)) ?_
                refine k_nm (fun z_96 ez_96 => ?_)
                refine k_ic_ge 180 X dX11_drawNight_168 (by decide) (fun h_97 => ?_) (fun h_97 => ?_)
                · skip
                  have j_98 : z_96.toInt ≤ z_92.toInt := iv_le h_97
                  refine k_iconst (v := 0) X dX11_drawNight_180 (by decide) ?_
                  refine k_iadd X dX11_drawNight_181 ?_
                  refine k_nm (fun z_99 ez_99 => ?_)
                  have i_100 : z_99.toInt = u_56.toInt + 0 := in_add ez_99 (iv_any u_56) (show IV 0 0 0 from (by decide)) (by decide) (by decide)
                  have iv_101 : IV z_99 (-2147483648) 2147483647 := by have := (iv_any u_56); have := (show IV 0 0 0 from (by decide)); rw [IV, i_100]; omega
                  refine k_put (ci := 11) [(cAI g a_begin 8 uf_25), (cAI g a_motor 8 uf_31), (cAI g a_change 8 uf_27), (cAI g a_startFrame 8 uf_33), (cAI g a_changeFrame 8 uf_28), (cAI g a_lostAt 8 uf_30), (cAI g a_blackAt 8 uf_26), (cAI g a_slips 8 uf_32), (cAI g a_from 8 uf_29), (cAI g a_r 311 d_r), (cAI g a_st 44 d_st), (cO11_i1r1i10r1i2r5i2r12i3r4i2 h0 m_thrown a_tape m_taped m_size m_at m_end m_token m_whole m_nameSize m_fault m_place m_trouble a_letters m_failed m_hasHouse a_r a_fresh a_st a_undone a_kept m_undos m_images a_from a_begin a_motor a_change a_startFrame a_changeFrame a_lostAt a_blackAt a_slips a_leftArc a_died a_arcs m_bestSum m_nearest m_nearestTown a_there a_backAt a_sorted a_parts m_seed12_90 z_99)] X inlX11 rfl tyX11_ok nmX11 42 (by decide) rfl dX11_drawNight_182 mw1422 11 rfl rfl rfl (Nat.le_of_ble_eq_true rfl) rfl ?_
                  obtain ⟨z_102, ez_102⟩ : ∃ y : Int32, u_53 + Int32.ofInt 1 = y := ⟨_, rfl⟩
                  refine k_iinc z_102 [(4, .int z_102), (3, .int u_34), (2, .int z_4), (0, .ref h0), (1, .int p0)] 0 X dX11_drawNight_185 rfl ez_102 (by decide) rfl ?_
                  have i_103 : z_102.toInt = u_53.toInt + 1 := in_inc ez_102 (by decide) iv_69 (by decide) (by decide)
                  have iv_104 : IV z_102 1 6 := iz1 i_103 iv_69 (by decide) (by decide)
                  refine k_goto 98 X dX11_drawNight_188 (by decide) ?_
                  refine k_sub [(cAI g a_begin 8 uf_25), (cAI g a_motor 8 uf_31), (cAI g a_change 8 uf_27), (cAI g a_startFrame 8 uf_33), (cAI g a_changeFrame 8 uf_28), (cAI g a_lostAt 8 uf_30), (cAI g a_blackAt 8 uf_26), (cAI g a_slips 8 uf_32), (cO11_i1r1i10r1i2r5i2r12i3r4i2 h0 m_thrown a_tape m_taped m_size m_at m_end m_token m_whole m_nameSize m_fault m_place m_trouble a_letters m_failed m_hasHouse a_r a_fresh a_st a_undone a_kept m_undos m_images a_from a_begin a_motor a_change a_startFrame a_changeFrame a_lostAt a_blackAt a_slips a_leftArc a_died a_arcs m_bestSum m_nearest m_nearestTown a_there a_backAt a_sorted a_parts m_seed12_90 z_99), (cAI g a_r 311 d_r), (cAI g a_st 44 d_st), (cAI g a_from 8 uf_29)] [0, 1, 2, 3, 4, 5, 6, 7, 11, 9, 10, 8] rfl (by decide) rfl ?_
                  exact ih_59 _ (by omega) z_102 m_seed12_90 z_99 rfl (iv_w iv_104 (by decide) (by decide))
                · skip
                  have j_105 : z_92.toInt < z_96.toInt := iv_nle h_97
                  have iv_106 : IV z_92 (-2147483648) 2147483646 := iv_ltL (iv_nle h_97) (iv_any z_92) (iv_any z_96) (by decide)
                  have iv_107 : IV z_96 (-2147483647) 2147483647 := iv_ltR (iv_nle h_97) (iv_any z_92) (iv_any z_96) (by decide)
                  refine k_aload_n X dX11_drawNight_171 3 rfl ?_
                  refine k_get (ci := 11) X inlX11 rfl 15 (by decide) dX11_drawNight_172 mw170 11 rfl rfl ?_
                  refine k_iconst (v := 5) X dX11_drawNight_175 (by decide) ?_
                  refine k_iald X dX11_drawNight_176 9 rfl (by unfold vp_in; decide) ?_
                  refine k_nm (fun z_108 ez_108 => ?_)
                  refine k_goto 181 X dX11_drawNight_177 (by decide) ?_
                  refine k_iadd X dX11_drawNight_181 ?_
                  refine k_nm (fun z_109 ez_109 => ?_)
                  refine k_put (ci := 11) [(cAI g a_begin 8 uf_25), (cAI g a_motor 8 uf_31), (cAI g a_change 8 uf_27), (cAI g a_startFrame 8 uf_33), (cAI g a_changeFrame 8 uf_28), (cAI g a_lostAt 8 uf_30), (cAI g a_blackAt 8 uf_26), (cAI g a_slips 8 uf_32), (cAI g a_from 8 uf_29), (cAI g a_r 311 d_r), (cAI g a_st 44 d_st), (cO11_i1r1i10r1i2r5i2r12i3r4i2 h0 m_thrown a_tape m_taped m_size m_at m_end m_token m_whole m_nameSize m_fault m_place m_trouble a_letters m_failed m_hasHouse a_r a_fresh a_st a_undone a_kept m_undos m_images a_from a_begin a_motor a_change a_startFrame a_changeFrame a_lostAt a_blackAt a_slips a_leftArc a_died a_arcs m_bestSum m_nearest m_nearestTown a_there a_backAt a_sorted a_parts m_seed12_90 z_109)] X inlX11 rfl tyX11_ok nmX11 42 (by decide) rfl dX11_drawNight_182 mw1422 11 rfl rfl rfl (Nat.le_of_ble_eq_true rfl) rfl ?_
                  obtain ⟨z_111, ez_111⟩ : ∃ y : Int32, u_53 + Int32.ofInt 1 = y := ⟨_, rfl⟩
                  refine k_iinc z_111 [(4, .int z_111), (3, .int u_34), (2, .int z_4), (0, .ref h0), (1, .int p0)] 0 X dX11_drawNight_185 rfl ez_111 (by decide) rfl ?_
                  have i_112 : z_111.toInt = u_53.toInt + 1 := in_inc ez_111 (by decide) iv_69 (by decide) (by decide)
                  have iv_113 : IV z_111 1 6 := iz1 i_112 iv_69 (by decide) (by decide)
                  refine k_goto 98 X dX11_drawNight_188 (by decide) ?_
                  refine k_sub [(cAI g a_begin 8 uf_25), (cAI g a_motor 8 uf_31), (cAI g a_change 8 uf_27), (cAI g a_startFrame 8 uf_33), (cAI g a_changeFrame 8 uf_28), (cAI g a_lostAt 8 uf_30), (cAI g a_blackAt 8 uf_26), (cAI g a_slips 8 uf_32), (cO11_i1r1i10r1i2r5i2r12i3r4i2 h0 m_thrown a_tape m_taped m_size m_at m_end m_token m_whole m_nameSize m_fault m_place m_trouble a_letters m_failed m_hasHouse a_r a_fresh a_st a_undone a_kept m_undos m_images a_from a_begin a_motor a_change a_startFrame a_changeFrame a_lostAt a_blackAt a_slips a_leftArc a_died a_arcs m_bestSum m_nearest m_nearestTown a_there a_backAt a_sorted a_parts m_seed12_90 z_109), (cAI g a_r 311 d_r), (cAI g a_st 44 d_st), (cAI g a_from 8 uf_29)] [0, 1, 2, 3, 4, 5, 6, 7, 11, 9, 10, 8] rfl (by decide) rfl ?_
                  exact ih_59 _ (by omega) z_111 m_seed12_90 z_109 rfl (iv_w iv_113 (by decide) (by decide))
              · skip
                have iv_114 : IV r_86 1 1 := iv_neL h_88 iv_87 (show IV 0 0 0 from (by decide)) (by decide)
                refine k_goto 185 X dX11_drawNight_139 (by decide) ?_
                obtain ⟨z_115, ez_115⟩ : ∃ y : Int32, u_53 + Int32.ofInt 1 = y := ⟨_, rfl⟩
                refine k_iinc z_115 [(4, .int z_115), (3, .int u_34), (2, .int z_4), (0, .ref h0), (1, .int p0)] 0 X dX11_drawNight_185 rfl ez_115 (by decide) rfl ?_
                have i_116 : z_115.toInt = u_53.toInt + 1 := in_inc ez_115 (by decide) iv_69 (by decide) (by decide)
                have iv_117 : IV z_115 1 6 := iz1 i_116 iv_69 (by decide) (by decide)
                refine k_goto 98 X dX11_drawNight_188 (by decide) ?_
                refine k_sub [(cAI g a_begin 8 uf_25), (cAI g a_motor 8 uf_31), (cAI g a_change 8 uf_27), (cAI g a_startFrame 8 uf_33), (cAI g a_changeFrame 8 uf_28), (cAI g a_lostAt 8 uf_30), (cAI g a_blackAt 8 uf_26), (cAI g a_slips 8 uf_32), (cO11_i1r1i10r1i2r5i2r12i3r4i2 h0 m_thrown a_tape m_taped m_size m_at m_end m_token m_whole m_nameSize m_fault m_place m_trouble a_letters m_failed m_hasHouse a_r a_fresh a_st a_undone a_kept m_undos m_images a_from a_begin a_motor a_change a_startFrame a_changeFrame a_lostAt a_blackAt a_slips a_leftArc a_died a_arcs m_bestSum m_nearest m_nearestTown a_there a_backAt a_sorted a_parts u_55 u_56), (cAI g a_r 311 d_r), (cAI g a_st 44 d_st), (cAI g a_from 8 uf_29)] [0, 1, 2, 3, 4, 5, 6, 7, 10, 9, 11, 8] rfl (by decide) rfl ?_
                exact ih_59 _ (by omega) z_115 u_55 u_56 rfl (iv_w iv_117 (by decide) (by decide))
        · skip
          have j_118 : u_34.toInt < z_4.toInt := iv_nle h_51
          have iv_119 : IV u_34 0 6 := iv_ltL (iv_nle h_51) iv_44 iv_45 (by decide)
          have iv_120 : IV z_4 1 7 := iv_ltR (iv_nle h_51) iv_44 iv_45 (by decide)
          have iv_121 : IV z_1 2 8 := by have := iv_46; have := iv_120; rw [IV]; omega
          refine k_aload_n X dX11_drawNight_64 2 rfl ?_
          refine k_get (ci := 11) X inlX11 rfl 30 (by decide) dX11_drawNight_65 mw183 8 rfl rfl ?_
          refine k_iload_n X dX11_drawNight_68 0 rfl ?_
          refine k_aload_n X dX11_drawNight_69 2 rfl ?_
          refine k_callVI (n := 0) (As := []) (st := [.int u_34, .ref a_slips]) X [(cO11_i1r1i10r1i2r5i2r12i3r4i2 h0 m_thrown a_tape m_taped m_size m_at m_end m_token m_whole m_nameSize m_fault m_place m_trouble a_letters m_failed m_hasHouse a_r a_fresh a_st a_undone a_kept m_undos m_images a_from a_begin a_motor a_change a_startFrame a_changeFrame a_lostAt a_blackAt a_slips a_leftArc a_died a_arcs m_bestSum m_nearest m_nearestTown a_there a_backAt a_sorted a_parts u_36 u_37)] [(cAI g a_begin 8 uf_25), (cAI g a_motor 8 uf_31), (cAI g a_change 8 uf_27), (cAI g a_startFrame 8 uf_33), (cAI g a_changeFrame 8 uf_28), (cAI g a_lostAt 8 uf_30), (cAI g a_blackAt 8 uf_26), (cAI g a_slips 8 uf_32), (cAI g a_r 311 d_r), (cAI g a_st 44 d_st), (cAI g a_from 8 uf_29)] [8] [0, 1, 2, 3, 4, 5, 6, 7, 9, 10, 11] (m_drawn l g h0 m_thrown a_tape m_taped m_size m_at m_end m_token m_whole m_nameSize m_fault m_place m_trouble a_letters m_failed m_hasHouse a_r a_fresh a_st a_undone a_kept m_undos m_images a_from a_begin a_motor a_change a_startFrame a_changeFrame a_lostAt a_blackAt a_slips a_leftArc a_died a_arcs m_bestSum m_nearest m_nearestTown a_there a_backAt a_sorted a_parts u_36 u_37) dX11_drawNight_70 mw1427 mw1428 mw1429 mw5 mw1430 rfl 11 rfl rfl 0 _ rfl yk_yX11_drawn_0 rfl (Nat.le_of_ble_eq_true rfl) (Nat.le_of_ble_eq_true rfl) (Nat.le_of_ble_eq_true rfl) (Nat.le_of_ble_eq_true rfl) (Nat.le_of_ble_eq_true rfl) rfl rfl (by decide +kernel) rfl (by decide +kernel) (by decide +kernel) ?_
          rintro r_123 w ⟨m_seed12_122, rfl⟩
          refine k_ws [(cAI g a_begin 8 uf_25), (cAI g a_motor 8 uf_31), (cAI g a_change 8 uf_27), (cAI g a_startFrame 8 uf_33), (cAI g a_changeFrame 8 uf_28), (cAI g a_lostAt 8 uf_30), (cAI g a_blackAt 8 uf_26), (cAI g a_slips 8 uf_32), (cAI g a_r 311 d_r), (cAI g a_st 44 d_st), (cAI g a_from 8 uf_29), (cO11_i1r1i10r1i2r5i2r12i3r4i2 h0 m_thrown a_tape m_taped m_size m_at m_end m_token m_whole m_nameSize m_fault m_place m_trouble a_letters m_failed m_hasHouse a_r a_fresh a_st a_undone a_kept m_undos m_images a_from a_begin a_motor a_change a_startFrame a_changeFrame a_lostAt a_blackAt a_slips a_leftArc a_died a_arcs m_bestSum m_nearest m_nearestTown a_there a_backAt a_sorted a_parts m_seed12_122 u_37)] rfl ?_
          refine k_aload_n X dX11_drawNight_73 2 rfl ?_
          refine k_get (ci := 11) X inlX11 rfl 15 (by decide) dX11_drawNight_74 mw170 11 rfl rfl ?_
          refine k_bipush (v := 114) X dX11_drawNight_77 (by decide) ?_
          refine k_iconst (v := 3) X dX11_drawNight_79 (by decide) ?_
          refine k_iload_n X dX11_drawNight_80 3 rfl ?_
          refine k_imul X dX11_drawNight_81 ?_
          refine k_nm (fun z_124 ez_124 => ?_)
          have i_125 : z_124.toInt = 3 * p0.toInt := in_mul ez_124 (by decide) (by decide) hv_p0 (by decide) (by decide)
          have iv_126 : IV z_124 0 9 := iz4 i_125 hv_p0 (by decide) (by decide) (by decide)
          refine k_iadd X dX11_drawNight_82 ?_
          refine k_nm (fun z_127 ez_127 => ?_)
          have i_128 : z_127.toInt = 114 + z_124.toInt := in_add ez_127 (show IV 114 114 114 from (by decide)) iv_126 (by decide) (by decide)
          have iv_129 : IV z_127 114 123 := iz2 i_128 iv_126 (by decide) (by decide)
          refine k_iconst (v := 2) X dX11_drawNight_83 (by decide) ?_
          refine k_iadd X dX11_drawNight_84 ?_
          refine k_nm (fun z_130 ez_130 => ?_)
          have i_131 : z_130.toInt = z_127.toInt + 2 := in_add ez_130 iv_129 (show IV 2 2 2 from (by decide)) (by decide) (by decide)
          have iv_132 : IV z_130 116 125 := iz1 i_131 iv_129 (by decide) (by decide)
          refine k_iald X dX11_drawNight_85 8 rfl (iv_in iv_132 (by decide) (by decide)) ?_
          refine k_nm (fun z_133 ez_133 => ?_)
          have i_134 : z_130.toInt = 116 + 3 * p0.toInt := by omega
          have iv_135 : IV z_133 0 40 := rb_116_3 ez_133 hp_d_r i_134 (iv_w hv_p0 (by decide) (by decide))
          refine k_iconst (v := 1) X dX11_drawNight_86 (by decide) ?_
          refine k_iadd X dX11_drawNight_87 ?_
          refine k_nm (fun z_136 ez_136 => ?_)
          have i_137 : z_136.toInt = z_133.toInt + 1 := in_add ez_136 iv_135 (show IV 1 1 1 from (by decide)) (by decide) (by decide)
          have iv_138 : IV z_136 1 41 := iz1 i_137 iv_135 (by decide) (by decide)
          refine k_irem X dX11_drawNight_88 (fun q => (iv_eqN q iv_138 (show IV 0 0 0 from (by decide)) (by decide))) ?_
          refine k_nm (fun z_139 ez_139 => ?_)
          refine k_iast [(cAI g a_begin 8 uf_25), (cAI g a_motor 8 uf_31), (cAI g a_change 8 uf_27), (cAI g a_startFrame 8 uf_33), (cAI g a_changeFrame 8 uf_28), (cAI g a_lostAt 8 uf_30), (cAI g a_blackAt 8 uf_26), (cAI g a_slips 8 (upd uf_32 (u_34 : Int32).toNatClampNeg z_139)), (cAI g a_r 311 d_r), (cAI g a_st 44 d_st), (cAI g a_from 8 uf_29), (cO11_i1r1i10r1i2r5i2r12i3r4i2 h0 m_thrown a_tape m_taped m_size m_at m_end m_token m_whole m_nameSize m_fault m_place m_trouble a_letters m_failed m_hasHouse a_r a_fresh a_st a_undone a_kept m_undos m_images a_from a_begin a_motor a_change a_startFrame a_changeFrame a_lostAt a_blackAt a_slips a_leftArc a_died a_arcs m_bestSum m_nearest m_nearestTown a_there a_backAt a_sorted a_parts m_seed12_122 u_37)] X dX11_drawNight_89 7 rfl (iv_in iv_119 (by decide) (by decide)) rfl ?_
          refine (fun hg : ∀ fa_140 : Nat → Int32, Wk p l e _ s m args below meth c _ A g _ _ _ [(cAI g a_begin 8 uf_25), (cAI g a_motor 8 uf_31), (cAI g a_change 8 uf_27), (cAI g a_startFrame 8 uf_33), (cAI g a_changeFrame 8 uf_28), (cAI g a_lostAt 8 uf_30), (cAI g a_blackAt 8 uf_26), (cAI g a_slips 8 fa_140), (cAI g a_r 311 d_r), (cAI g a_st 44 d_st), (cAI g a_from 8 uf_29), (cO11_i1r1i10r1i2r5i2r12i3r4i2 h0 m_thrown a_tape m_taped m_size m_at m_end m_token m_whole m_nameSize m_fault m_place m_trouble a_letters m_failed m_hasHouse a_r a_fresh a_st a_undone a_kept m_undos m_images a_from a_begin a_motor a_change a_startFrame a_changeFrame a_lostAt a_blackAt a_slips a_leftArc a_died a_arcs m_bestSum m_nearest m_nearestTown a_there a_backAt a_sorted a_parts m_seed12_122 u_37)] _ _ _ => hg _) (fun fa_140 => ?_)
          refine k_aload_n X dX11_drawNight_90 2 rfl ?_
          refine k_iload_n X dX11_drawNight_91 3 rfl ?_
          refine k_callVV (n := 1) (As := [.int p0]) (st := []) X [(cO11_i1r1i10r1i2r5i2r12i3r4i2 h0 m_thrown a_tape m_taped m_size m_at m_end m_token m_whole m_nameSize m_fault m_place m_trouble a_letters m_failed m_hasHouse a_r a_fresh a_st a_undone a_kept m_undos m_images a_from a_begin a_motor a_change a_startFrame a_changeFrame a_lostAt a_blackAt a_slips a_leftArc a_died a_arcs m_bestSum m_nearest m_nearestTown a_there a_backAt a_sorted a_parts m_seed12_122 u_37), (cAI g a_r 311 d_r), (cAI g a_st 44 d_st), (cAI g a_from 8 uf_29), (cAI g a_begin 8 uf_25), (cAI g a_motor 8 uf_31), (cAI g a_change 8 uf_27), (cAI g a_startFrame 8 uf_33), (cAI g a_changeFrame 8 uf_28), (cAI g a_lostAt 8 uf_30), (cAI g a_blackAt 8 uf_26), (cAI g a_slips 8 fa_140)] [] [11, 8, 9, 10, 0, 1, 2, 3, 4, 5, 6, 7] [] (m_layNight l g h0 p0 m_thrown a_tape m_taped m_size m_at m_end m_token m_whole m_nameSize m_fault m_place m_trouble a_letters m_failed m_hasHouse a_r a_fresh a_st a_undone a_kept m_undos m_images a_from a_begin a_motor a_change a_startFrame a_changeFrame a_lostAt a_blackAt a_slips a_leftArc a_died a_arcs m_bestSum m_nearest m_nearestTown a_there a_backAt a_sorted a_parts m_seed12_122 u_37 d_r d_st uf_29 uf_25 uf_31 uf_27 uf_33 uf_28 uf_30 uf_26 fa_140 (iv_w hv_p0 (by decide) (by decide)) hp_d_r) dX11_drawNight_92 mw819 mw820 mw821 mw5 mw822 rfl 11 rfl rfl 0 _ rfl yk_yX11_layNight_1 rfl (Nat.le_of_ble_eq_true rfl) (Nat.le_of_ble_eq_true rfl) (Nat.le_of_ble_eq_true rfl) (Nat.le_of_ble_eq_true rfl) (Nat.le_of_ble_eq_true rfl) rfl rfl (by decide +kernel) rfl (by decide +kernel) (by decide +kernel) ?_
          rintro w ⟨d_begin2_141, d_blackAt2_142, d_change2_143, d_changeFrame2_144, d_from2_145, d_lostAt2_146, d_motor2_147, d_startFrame2_148, rfl⟩
          refine k_ws [(cO11_i1r1i10r1i2r5i2r12i3r4i2 h0 m_thrown a_tape m_taped m_size m_at m_end m_token m_whole m_nameSize m_fault m_place m_trouble a_letters m_failed m_hasHouse a_r a_fresh a_st a_undone a_kept m_undos m_images a_from a_begin a_motor a_change a_startFrame a_changeFrame a_lostAt a_blackAt a_slips a_leftArc a_died a_arcs m_bestSum m_nearest m_nearestTown a_there a_backAt a_sorted a_parts m_seed12_122 u_37), (cAI g a_r 311 d_r), (cAI g a_st 44 d_st), (cAI g a_from 8 d_from2_145), (cAI g a_begin 8 d_begin2_141), (cAI g a_motor 8 d_motor2_147), (cAI g a_change 8 d_change2_143), (cAI g a_startFrame 8 d_startFrame2_148), (cAI g a_changeFrame 8 d_changeFrame2_144), (cAI g a_lostAt 8 d_lostAt2_146), (cAI g a_blackAt 8 d_blackAt2_142), (cAI g a_slips 8 fa_140)] rfl ?_
          refine k_iconst (v := 0) X dX11_drawNight_95 (by decide) ?_
          refine k_istore [(4, .int 0), (3, .int u_34), (2, .int z_4), (0, .ref h0), (1, .int p0)] X dX11_drawNight_96 (by decide) rfl ?_
          refine (fun hL : ∀ (nn_154 : Nat) (u_150 : Int32) (u_152 : Int32) (u_153 : Int32), (2147483647 - u_150.toInt).toNat = nn_154 → (IV u_150 0 8) → Wk p l e _ s m args below meth c _ A g _ _ _ [(cO11_i1r1i10r1i2r5i2r12i3r4i2 h0 m_thrown a_tape m_taped m_size m_at m_end m_token m_whole m_nameSize m_fault m_place m_trouble a_letters m_failed m_hasHouse a_r a_fresh a_st a_undone a_kept m_undos m_images a_from a_begin a_motor a_change a_startFrame a_changeFrame a_lostAt a_blackAt a_slips a_leftArc a_died a_arcs m_bestSum m_nearest m_nearestTown a_there a_backAt a_sorted a_parts u_152 u_153), (cAI g a_r 311 d_r), (cAI g a_st 44 d_st), (cAI g a_from 8 d_from2_145), (cAI g a_begin 8 d_begin2_141), (cAI g a_motor 8 d_motor2_147), (cAI g a_change 8 d_change2_143), (cAI g a_startFrame 8 d_startFrame2_148), (cAI g a_changeFrame 8 d_changeFrame2_144), (cAI g a_lostAt 8 d_lostAt2_146), (cAI g a_blackAt 8 d_blackAt2_142), (cAI g a_slips 8 fa_140)] [(4, .int u_150), (3, .int u_34), (2, .int z_4), (0, .ref h0), (1, .int p0)] 98 [] => hL _ 0 m_seed12_122 u_37 rfl (iv_w (show IV 0 0 0 from (by decide)) (by decide) (by decide))) ?_
          refine fun nn_154 => Nat.strongRecOn nn_154 (fun nn_154 ih_156 => ?_)
          intro u_150 u_152 u_153 hm_155 hv_151
          refine k_iload X dX11_drawNight_98 0 rfl ?_
          refine k_aload_n X dX11_drawNight_100 3 rfl ?_
          refine k_get (ci := 11) X inlX11 rfl 15 (by decide) dX11_drawNight_101 mw170 0 rfl rfl ?_
          refine k_bipush (v := 10) X dX11_drawNight_104 (by decide) ?_
          refine k_iald X dX11_drawNight_106 1 rfl (by unfold vp_in; decide) ?_
          refine k_nm (fun z_157 ez_157 => ?_)
          have i_158 : z_157.toInt = (d_r 10).toInt := by rw [ez_157]; rfl
          have iv_159 : IV z_157 0 6 := rb_10 ez_157 hp_d_r
          refine k_ic_ge 191 X dX11_drawNight_107 (by decide) (fun h_160 => ?_) (fun h_160 => ?_)
          · skip
            have j_161 : z_157.toInt ≤ u_150.toInt := iv_le h_160
            obtain ⟨z_162, ez_162⟩ : ∃ y : Int32, u_34 + Int32.ofInt 1 = y := ⟨_, rfl⟩
            refine k_iinc z_162 [(3, .int z_162), (4, .int u_150), (2, .int z_4), (0, .ref h0), (1, .int p0)] 1 X dX11_drawNight_191 rfl ez_162 (by decide) rfl ?_
            have i_163 : z_162.toInt = u_34.toInt + 1 := in_inc ez_162 (by decide) iv_119 (by decide) (by decide)
            have iv_164 : IV z_162 1 7 := iz1 i_163 iv_119 (by decide) (by decide)
            refine k_goto 43 X dX11_drawNight_194 (by decide) ?_
            refine k_lv [(3, .int z_162), (2, .int z_4), (0, .ref h0), (1, .int p0)] [0, 2, 3, 4] rfl ?_
            exact ih_40 _ (by omega) d_begin2_141 d_blackAt2_142 d_change2_143 d_changeFrame2_144 d_from2_145 d_lostAt2_146 d_motor2_147 fa_140 d_startFrame2_148 z_162 u_152 u_153 rfl (iv_w iv_164 (by decide) (by decide))
          · skip
            have j_165 : u_150.toInt < z_157.toInt := iv_nle h_160
            have iv_166 : IV u_150 0 5 := iv_ltL (iv_nle h_160) hv_151 iv_159 (by decide)
            have iv_167 : IV z_157 1 6 := iv_ltR (iv_nle h_160) hv_151 iv_159 (by decide)
            refine k_aload_n X dX11_drawNight_110 3 rfl ?_
            refine k_get (ci := 11) X inlX11 rfl 15 (by decide) dX11_drawNight_111 mw170 0 rfl rfl ?_
            refine k_bipush (v := 96) X dX11_drawNight_114 (by decide) ?_
            refine k_iconst (v := 3) X dX11_drawNight_116 (by decide) ?_
            refine k_iload X dX11_drawNight_117 0 rfl ?_
            refine k_imul X dX11_drawNight_119 ?_
            refine k_nm (fun z_168 ez_168 => ?_)
            have i_169 : z_168.toInt = 3 * u_150.toInt := in_mul ez_168 (by decide) (by decide) iv_166 (by decide) (by decide)
            have iv_170 : IV z_168 0 15 := iz4 i_169 iv_166 (by decide) (by decide) (by decide)
            refine k_iadd X dX11_drawNight_120 ?_
            refine k_nm (fun z_171 ez_171 => ?_)
            have i_172 : z_171.toInt = 96 + z_168.toInt := in_add ez_171 (show IV 96 96 96 from (by decide)) iv_170 (by decide) (by decide)
            have iv_173 : IV z_171 96 111 := iz2 i_172 iv_170 (by decide) (by decide)
            refine k_iald X dX11_drawNight_121 1 rfl (iv_in iv_173 (by decide) (by decide)) ?_
            refine k_nm (fun z_174 ez_174 => ?_)
            have i_175 : z_171.toInt = 96 + 3 * u_150.toInt := by omega
            have iv_176 : IV z_174 0 7 := rb_96_3 ez_174 hp_d_r i_175 (iv_w iv_166 (by decide) (by decide))
            refine k_aload_n X dX11_drawNight_122 3 rfl ?_
            refine k_iload_n X dX11_drawNight_123 1 rfl ?_
            refine k_callVI (n := 1) (As := [.int u_34]) (st := [.int z_174]) X [(cO11_i1r1i10r1i2r5i2r12i3r4i2 h0 m_thrown a_tape m_taped m_size m_at m_end m_token m_whole m_nameSize m_fault m_place m_trouble a_letters m_failed m_hasHouse a_r a_fresh a_st a_undone a_kept m_undos m_images a_from a_begin a_motor a_change a_startFrame a_changeFrame a_lostAt a_blackAt a_slips a_leftArc a_died a_arcs m_bestSum m_nearest m_nearestTown a_there a_backAt a_sorted a_parts u_152 u_153), (cAI g a_r 311 d_r)] [(cAI g a_st 44 d_st), (cAI g a_from 8 d_from2_145), (cAI g a_begin 8 d_begin2_141), (cAI g a_motor 8 d_motor2_147), (cAI g a_change 8 d_change2_143), (cAI g a_startFrame 8 d_startFrame2_148), (cAI g a_changeFrame 8 d_changeFrame2_144), (cAI g a_lostAt 8 d_lostAt2_146), (cAI g a_blackAt 8 d_blackAt2_142), (cAI g a_slips 8 fa_140)] [0, 1] [2, 3, 4, 5, 6, 7, 8, 9, 10, 11] (m_reelAt l g h0 u_34 m_thrown a_tape m_taped m_size m_at m_end m_token m_whole m_nameSize m_fault m_place m_trouble a_letters m_failed m_hasHouse a_r a_fresh a_st a_undone a_kept m_undos m_images a_from a_begin a_motor a_change a_startFrame a_changeFrame a_lostAt a_blackAt a_slips a_leftArc a_died a_arcs m_bestSum m_nearest m_nearestTown a_there a_backAt a_sorted a_parts u_152 u_153 d_r (iv_w iv_119 (by decide) (by decide)) hp_d_r) dX11_drawNight_124 mw723 mw724 mw725 mw5 mw726 rfl 11 rfl rfl 0 _ rfl yk_yX11_reelAt_1 rfl (Nat.le_of_ble_eq_true rfl) (Nat.le_of_ble_eq_true rfl) (Nat.le_of_ble_eq_true rfl) (Nat.le_of_ble_eq_true rfl) (Nat.le_of_ble_eq_true rfl) rfl rfl (by decide +kernel) rfl (by decide +kernel) (by decide +kernel) ?_
            rintro r_177 w ⟨iv_178, rfl⟩
            refine k_ws [(cAI g a_st 44 d_st), (cAI g a_from 8 d_from2_145), (cAI g a_begin 8 d_begin2_141), (cAI g a_motor 8 d_motor2_147), (cAI g a_change 8 d_change2_143), (cAI g a_startFrame 8 d_startFrame2_148), (cAI g a_changeFrame 8 d_changeFrame2_144), (cAI g a_lostAt 8 d_lostAt2_146), (cAI g a_blackAt 8 d_blackAt2_142), (cAI g a_slips 8 fa_140), (cO11_i1r1i10r1i2r5i2r12i3r4i2 h0 m_thrown a_tape m_taped m_size m_at m_end m_token m_whole m_nameSize m_fault m_place m_trouble a_letters m_failed m_hasHouse a_r a_fresh a_st a_undone a_kept m_undos m_images a_from a_begin a_motor a_change a_startFrame a_changeFrame a_lostAt a_blackAt a_slips a_leftArc a_died a_arcs m_bestSum m_nearest m_nearestTown a_there a_backAt a_sorted a_parts u_152 u_153), (cAI g a_r 311 d_r)] rfl ?_
            refine k_ic_ne 185 X dX11_drawNight_127 (by decide) (fun h_179 => ?_) (fun h_179 => ?_)
            · skip
              obtain ⟨z_180, ez_180⟩ : ∃ y : Int32, u_150 + Int32.ofInt 1 = y := ⟨_, rfl⟩
              refine k_iinc z_180 [(4, .int z_180), (3, .int u_34), (2, .int z_4), (0, .ref h0), (1, .int p0)] 0 X dX11_drawNight_185 rfl ez_180 (by decide) rfl ?_
              have i_181 : z_180.toInt = u_150.toInt + 1 := in_inc ez_180 (by decide) iv_166 (by decide) (by decide)
              have iv_182 : IV z_180 1 6 := iz1 i_181 iv_166 (by decide) (by decide)
              refine k_goto 98 X dX11_drawNight_188 (by decide) ?_
              refine k_sub [(cO11_i1r1i10r1i2r5i2r12i3r4i2 h0 m_thrown a_tape m_taped m_size m_at m_end m_token m_whole m_nameSize m_fault m_place m_trouble a_letters m_failed m_hasHouse a_r a_fresh a_st a_undone a_kept m_undos m_images a_from a_begin a_motor a_change a_startFrame a_changeFrame a_lostAt a_blackAt a_slips a_leftArc a_died a_arcs m_bestSum m_nearest m_nearestTown a_there a_backAt a_sorted a_parts u_152 u_153), (cAI g a_r 311 d_r), (cAI g a_st 44 d_st), (cAI g a_from 8 d_from2_145), (cAI g a_begin 8 d_begin2_141), (cAI g a_motor 8 d_motor2_147), (cAI g a_change 8 d_change2_143), (cAI g a_startFrame 8 d_startFrame2_148), (cAI g a_changeFrame 8 d_changeFrame2_144), (cAI g a_lostAt 8 d_lostAt2_146), (cAI g a_blackAt 8 d_blackAt2_142), (cAI g a_slips 8 fa_140)] [10, 11, 0, 1, 2, 3, 4, 5, 6, 7, 8, 9] rfl (by decide) rfl ?_
              exact ih_156 _ (by omega) z_180 u_152 u_153 rfl (iv_w iv_182 (by decide) (by decide))
            · skip
              refine k_aload_n X dX11_drawNight_130 3 rfl ?_
              refine k_iload X dX11_drawNight_131 0 rfl ?_
              refine k_callVI (n := 1) (As := [.int u_150]) (st := []) X [(cO11_i1r1i10r1i2r5i2r12i3r4i2 h0 m_thrown a_tape m_taped m_size m_at m_end m_token m_whole m_nameSize m_fault m_place m_trouble a_letters m_failed m_hasHouse a_r a_fresh a_st a_undone a_kept m_undos m_images a_from a_begin a_motor a_change a_startFrame a_changeFrame a_lostAt a_blackAt a_slips a_leftArc a_died a_arcs m_bestSum m_nearest m_nearestTown a_there a_backAt a_sorted a_parts u_152 u_153), (cAI g a_st 44 d_st)] [(cAI g a_from 8 d_from2_145), (cAI g a_begin 8 d_begin2_141), (cAI g a_motor 8 d_motor2_147), (cAI g a_change 8 d_change2_143), (cAI g a_startFrame 8 d_startFrame2_148), (cAI g a_changeFrame 8 d_changeFrame2_144), (cAI g a_lostAt 8 d_lostAt2_146), (cAI g a_blackAt 8 d_blackAt2_142), (cAI g a_slips 8 fa_140), (cAI g a_r 311 d_r)] [10, 0] [1, 2, 3, 4, 5, 6, 7, 8, 9, 11] (m_isMended l g h0 u_150 m_thrown a_tape m_taped m_size m_at m_end m_token m_whole m_nameSize m_fault m_place m_trouble a_letters m_failed m_hasHouse a_r a_fresh a_st a_undone a_kept m_undos m_images a_from a_begin a_motor a_change a_startFrame a_changeFrame a_lostAt a_blackAt a_slips a_leftArc a_died a_arcs m_bestSum m_nearest m_nearestTown a_there a_backAt a_sorted a_parts u_152 u_153 d_st) dX11_drawNight_133 mw682 mw683 mw684 mw5 mw685 rfl 11 rfl rfl 0 _ rfl yk_yX11_isMended_1 rfl (Nat.le_of_ble_eq_true rfl) (Nat.le_of_ble_eq_true rfl) (Nat.le_of_ble_eq_true rfl) (Nat.le_of_ble_eq_true rfl) (Nat.le_of_ble_eq_true rfl) rfl rfl (by decide +kernel) rfl (by decide +kernel) (by decide +kernel) ?_
              rintro r_183 w ⟨iv_184, rfl⟩
              refine k_ws [(cAI g a_from 8 d_from2_145), (cAI g a_begin 8 d_begin2_141), (cAI g a_motor 8 d_motor2_147), (cAI g a_change 8 d_change2_143), (cAI g a_startFrame 8 d_startFrame2_148), (cAI g a_changeFrame 8 d_changeFrame2_144), (cAI g a_lostAt 8 d_lostAt2_146), (cAI g a_blackAt 8 d_blackAt2_142), (cAI g a_slips 8 fa_140), (cAI g a_r 311 d_r), (cO11_i1r1i10r1i2r5i2r12i3r4i2 h0 m_thrown a_tape m_taped m_size m_at m_end m_token m_whole m_nameSize m_fault m_place m_trouble a_letters m_failed m_hasHouse a_r a_fresh a_st a_undone a_kept m_undos m_images a_from a_begin a_motor a_change a_startFrame a_changeFrame a_lostAt a_blackAt a_slips a_leftArc a_died a_arcs m_bestSum m_nearest m_nearestTown a_there a_backAt a_sorted a_parts u_152 u_153), (cAI g a_st 44 d_st)] rfl ?_
              refine k_if_eq 142 X dX11_drawNight_136 (by decide) (fun h_185 => ?_) (fun h_185 => ?_)
              · skip
                have iv_186 : IV r_183 0 0 := iv_meet iv_184 (iv_e h_185 (show IV 0 0 0 from (by decide))) (by decide) (by decide)
                refine k_aload_n X dX11_drawNight_142 3 rfl ?_
                refine k_dup X dX11_drawNight_143 rfl ?_
                refine k_get (ci := 11) X inlX11 rfl 42 (by decide) dX11_drawNight_144 mw1422 10 rfl rfl ?_
                refine k_aload_n X dX11_drawNight_147 3 rfl ?_
                refine k_callVI (n := 0) (As := []) (st := [.int u_153, .ref h0]) X [(cO11_i1r1i10r1i2r5i2r12i3r4i2 h0 m_thrown a_tape m_taped m_size m_at m_end m_token m_whole m_nameSize m_fault m_place m_trouble a_letters m_failed m_hasHouse a_r a_fresh a_st a_undone a_kept m_undos m_images a_from a_begin a_motor a_change a_startFrame a_changeFrame a_lostAt a_blackAt a_slips a_leftArc a_died a_arcs m_bestSum m_nearest m_nearestTown a_there a_backAt a_sorted a_parts u_152 u_153)] [(cAI g a_from 8 d_from2_145), (cAI g a_begin 8 d_begin2_141), (cAI g a_motor 8 d_motor2_147), (cAI g a_change 8 d_change2_143), (cAI g a_startFrame 8 d_startFrame2_148), (cAI g a_changeFrame 8 d_changeFrame2_144), (cAI g a_lostAt 8 d_lostAt2_146), (cAI g a_blackAt 8 d_blackAt2_142), (cAI g a_slips 8 fa_140), (cAI g a_r 311 d_r), (cAI g a_st 44 d_st)] [10] [0, 1, 2, 3, 4, 5, 6, 7, 8, 9, 11] (m_drawn l g h0 m_thrown a_tape m_taped m_size m_at m_end m_token m_whole m_nameSize m_fault m_place m_trouble a_letters m_failed m_hasHouse a_r a_fresh a_st a_undone a_kept m_undos m_images a_from a_begin a_motor a_change a_startFrame a_changeFrame a_lostAt a_blackAt a_slips a_leftArc a_died a_arcs m_bestSum m_nearest m_nearestTown a_there a_backAt a_sorted a_parts u_152 u_153) dX11_drawNight_148 mw1427 mw1428 mw1429 mw5 mw1430 rfl 11 rfl rfl 0 _ rfl yk_yX11_drawn_0 rfl (Nat.le_of_ble_eq_true rfl) (Nat.le_of_ble_eq_true rfl) (Nat.le_of_ble_eq_true rfl) (Nat.le_of_ble_eq_true rfl) (Nat.le_of_ble_eq_true rfl) rfl rfl (by decide +kernel) rfl (by decide +kernel) (by decide +kernel) ?_
                rintro r_188 w ⟨m_seed12_187, rfl⟩
                refine k_ws [(cAI g a_from 8 d_from2_145), (cAI g a_begin 8 d_begin2_141), (cAI g a_motor 8 d_motor2_147), (cAI g a_change 8 d_change2_143), (cAI g a_startFrame 8 d_startFrame2_148), (cAI g a_changeFrame 8 d_changeFrame2_144), (cAI g a_lostAt 8 d_lostAt2_146), (cAI g a_blackAt 8 d_blackAt2_142), (cAI g a_slips 8 fa_140), (cAI g a_r 311 d_r), (cAI g a_st 44 d_st), (cO11_i1r1i10r1i2r5i2r12i3r4i2 h0 m_thrown a_tape m_taped m_size m_at m_end m_token m_whole m_nameSize m_fault m_place m_trouble a_letters m_failed m_hasHouse a_r a_fresh a_st a_undone a_kept m_undos m_images a_from a_begin a_motor a_change a_startFrame a_changeFrame a_lostAt a_blackAt a_slips a_leftArc a_died a_arcs m_bestSum m_nearest m_nearestTown a_there a_backAt a_sorted a_parts m_seed12_187 u_153)] rfl ?_
                refine k_bipush (v := 100) X dX11_drawNight_151 (by decide) ?_
                refine k_irem X dX11_drawNight_153 (by decide) ?_
                refine k_nm (fun z_189 ez_189 => ?_)
                refine k_aload_n X dX11_drawNight_154 3 rfl ?_
                refine k_get (ci := 11) X inlX11 rfl 15 (by decide) dX11_drawNight_155 mw170 11 rfl rfl ?_
                refine k_bipush (v := 96) X dX11_drawNight_158 (by decide) ?_
                refine k_iconst (v := 3) X dX11_drawNight_160 (by decide) ?_
                refine k_iload X dX11_drawNight_161 0 rfl ?_
                refine k_imul X dX11_drawNight_163 ?_
                refine k_to z_168 ez_168.symm ?_
                refine k_iadd X dX11_drawNight_164 ?_
                refine k_to z_171 ez_171.symm ?_
                refine k_iconst (v := 2) X dX11_drawNight_165 (by decide) ?_
                refine k_iadd X dX11_drawNight_166 ?_
                refine k_nm (fun z_190 ez_190 => ?_)
                have i_191 : z_190.toInt = z_171.toInt + 2 := in_add ez_190 iv_173 (show IV 2 2 2 from (by decide)) (by decide) (by decide)
                have iv_192 : IV z_190 98 113 := iz1 i_191 iv_173 (by decide) (by decide)
                refine k_iald X dX11_drawNight_167 9 rfl (iv_in iv_192 (by decide) (by decide)) ?_
                refine k_nm (fun z_193 ez_193 => ?_)
                refine k_ic_ge 180 X dX11_drawNight_168 (by decide) (fun h_194 => ?_) (fun h_194 => ?_)
                · skip
                  have j_195 : z_193.toInt ≤ z_189.toInt := iv_le h_194
                  refine k_iconst (v := 0) X dX11_drawNight_180 (by decide) ?_
                  refine k_iadd X dX11_drawNight_181 ?_
                  refine k_nm (fun z_196 ez_196 => ?_)
                  have i_197 : z_196.toInt = u_153.toInt + 0 := in_add ez_196 (iv_any u_153) (show IV 0 0 0 from (by decide)) (by decide) (by decide)
                  have iv_198 : IV z_196 (-2147483648) 2147483647 := by have := (iv_any u_153); have := (show IV 0 0 0 from (by decide)); rw [IV, i_197]; omega
                  refine k_put (ci := 11) [(cAI g a_from 8 d_from2_145), (cAI g a_begin 8 d_begin2_141), (cAI g a_motor 8 d_motor2_147), (cAI g a_change 8 d_change2_143), (cAI g a_startFrame 8 d_startFrame2_148), (cAI g a_changeFrame 8 d_changeFrame2_144), (cAI g a_lostAt 8 d_lostAt2_146), (cAI g a_blackAt 8 d_blackAt2_142), (cAI g a_slips 8 fa_140), (cAI g a_r 311 d_r), (cAI g a_st 44 d_st), (cO11_i1r1i10r1i2r5i2r12i3r4i2 h0 m_thrown a_tape m_taped m_size m_at m_end m_token m_whole m_nameSize m_fault m_place m_trouble a_letters m_failed m_hasHouse a_r a_fresh a_st a_undone a_kept m_undos m_images a_from a_begin a_motor a_change a_startFrame a_changeFrame a_lostAt a_blackAt a_slips a_leftArc a_died a_arcs m_bestSum m_nearest m_nearestTown a_there a_backAt a_sorted a_parts m_seed12_187 z_196)] X inlX11 rfl tyX11_ok nmX11 42 (by decide) rfl dX11_drawNight_182 mw1422 11 rfl rfl rfl (Nat.le_of_ble_eq_true rfl) rfl ?_
                  obtain ⟨z_199, ez_199⟩ : ∃ y : Int32, u_150 + Int32.ofInt 1 = y := ⟨_, rfl⟩
                  refine k_iinc z_199 [(4, .int z_199), (3, .int u_34), (2, .int z_4), (0, .ref h0), (1, .int p0)] 0 X dX11_drawNight_185 rfl ez_199 (by decide) rfl ?_
                  have i_200 : z_199.toInt = u_150.toInt + 1 := in_inc ez_199 (by decide) iv_166 (by decide) (by decide)
                  have iv_201 : IV z_199 1 6 := iz1 i_200 iv_166 (by decide) (by decide)
                  refine k_goto 98 X dX11_drawNight_188 (by decide) ?_
                  refine k_sub [(cO11_i1r1i10r1i2r5i2r12i3r4i2 h0 m_thrown a_tape m_taped m_size m_at m_end m_token m_whole m_nameSize m_fault m_place m_trouble a_letters m_failed m_hasHouse a_r a_fresh a_st a_undone a_kept m_undos m_images a_from a_begin a_motor a_change a_startFrame a_changeFrame a_lostAt a_blackAt a_slips a_leftArc a_died a_arcs m_bestSum m_nearest m_nearestTown a_there a_backAt a_sorted a_parts m_seed12_187 z_196), (cAI g a_r 311 d_r), (cAI g a_st 44 d_st), (cAI g a_from 8 d_from2_145), (cAI g a_begin 8 d_begin2_141), (cAI g a_motor 8 d_motor2_147), (cAI g a_change 8 d_change2_143), (cAI g a_startFrame 8 d_startFrame2_148), (cAI g a_changeFrame 8 d_changeFrame2_144), (cAI g a_lostAt 8 d_lostAt2_146), (cAI g a_blackAt 8 d_blackAt2_142), (cAI g a_slips 8 fa_140)] [11, 9, 10, 0, 1, 2, 3, 4, 5, 6, 7, 8] rfl (by decide) rfl ?_
                  exact ih_156 _ (by omega) z_199 m_seed12_187 z_196 rfl (iv_w iv_201 (by decide) (by decide))
                · skip
                  have j_202 : z_189.toInt < z_193.toInt := iv_nle h_194
                  have iv_203 : IV z_189 (-2147483648) 2147483646 := iv_ltL (iv_nle h_194) (iv_any z_189) (iv_any z_193) (by decide)
                  have iv_204 : IV z_193 (-2147483647) 2147483647 := iv_ltR (iv_nle h_194) (iv_any z_189) (iv_any z_193) (by decide)
                  refine k_aload_n X dX11_drawNight_171 3 rfl ?_
                  refine k_get (ci := 11) X inlX11 rfl 15 (by decide) dX11_drawNight_172 mw170 11 rfl rfl ?_
                  refine k_iconst (v := 5) X dX11_drawNight_175 (by decide) ?_
                  refine k_iald X dX11_drawNight_176 9 rfl (by unfold vp_in; decide) ?_
                  refine k_nm (fun z_205 ez_205 => ?_)
                  refine k_goto 181 X dX11_drawNight_177 (by decide) ?_
                  refine k_iadd X dX11_drawNight_181 ?_
                  refine k_nm (fun z_206 ez_206 => ?_)
                  refine k_put (ci := 11) [(cAI g a_from 8 d_from2_145), (cAI g a_begin 8 d_begin2_141), (cAI g a_motor 8 d_motor2_147), (cAI g a_change 8 d_change2_143), (cAI g a_startFrame 8 d_startFrame2_148), (cAI g a_changeFrame 8 d_changeFrame2_144), (cAI g a_lostAt 8 d_lostAt2_146), (cAI g a_blackAt 8 d_blackAt2_142), (cAI g a_slips 8 fa_140), (cAI g a_r 311 d_r), (cAI g a_st 44 d_st), (cO11_i1r1i10r1i2r5i2r12i3r4i2 h0 m_thrown a_tape m_taped m_size m_at m_end m_token m_whole m_nameSize m_fault m_place m_trouble a_letters m_failed m_hasHouse a_r a_fresh a_st a_undone a_kept m_undos m_images a_from a_begin a_motor a_change a_startFrame a_changeFrame a_lostAt a_blackAt a_slips a_leftArc a_died a_arcs m_bestSum m_nearest m_nearestTown a_there a_backAt a_sorted a_parts m_seed12_187 z_206)] X inlX11 rfl tyX11_ok nmX11 42 (by decide) rfl dX11_drawNight_182 mw1422 11 rfl rfl rfl (Nat.le_of_ble_eq_true rfl) rfl ?_
                  obtain ⟨z_208, ez_208⟩ : ∃ y : Int32, u_150 + Int32.ofInt 1 = y := ⟨_, rfl⟩
                  refine k_iinc z_208 [(4, .int z_208), (3, .int u_34), (2, .int z_4), (0, .ref h0), (1, .int p0)] 0 X dX11_drawNight_185 rfl ez_208 (by decide) rfl ?_
                  have i_209 : z_208.toInt = u_150.toInt + 1 := in_inc ez_208 (by decide) iv_166 (by decide) (by decide)
                  have iv_210 : IV z_208 1 6 := iz1 i_209 iv_166 (by decide) (by decide)
                  refine k_goto 98 X dX11_drawNight_188 (by decide) ?_
                  refine k_sub [(cO11_i1r1i10r1i2r5i2r12i3r4i2 h0 m_thrown a_tape m_taped m_size m_at m_end m_token m_whole m_nameSize m_fault m_place m_trouble a_letters m_failed m_hasHouse a_r a_fresh a_st a_undone a_kept m_undos m_images a_from a_begin a_motor a_change a_startFrame a_changeFrame a_lostAt a_blackAt a_slips a_leftArc a_died a_arcs m_bestSum m_nearest m_nearestTown a_there a_backAt a_sorted a_parts m_seed12_187 z_206), (cAI g a_r 311 d_r), (cAI g a_st 44 d_st), (cAI g a_from 8 d_from2_145), (cAI g a_begin 8 d_begin2_141), (cAI g a_motor 8 d_motor2_147), (cAI g a_change 8 d_change2_143), (cAI g a_startFrame 8 d_startFrame2_148), (cAI g a_changeFrame 8 d_changeFrame2_144), (cAI g a_lostAt 8 d_lostAt2_146), (cAI g a_blackAt 8 d_blackAt2_142), (cAI g a_slips 8 fa_140)] [11, 9, 10, 0, 1, 2, 3, 4, 5, 6, 7, 8] rfl (by decide) rfl ?_
                  exact ih_156 _ (by omega) z_208 m_seed12_187 z_206 rfl (iv_w iv_210 (by decide) (by decide))
              · skip
                have iv_211 : IV r_183 1 1 := iv_neL h_185 iv_184 (show IV 0 0 0 from (by decide)) (by decide)
                refine k_goto 185 X dX11_drawNight_139 (by decide) ?_
                obtain ⟨z_212, ez_212⟩ : ∃ y : Int32, u_150 + Int32.ofInt 1 = y := ⟨_, rfl⟩
                refine k_iinc z_212 [(4, .int z_212), (3, .int u_34), (2, .int z_4), (0, .ref h0), (1, .int p0)] 0 X dX11_drawNight_185 rfl ez_212 (by decide) rfl ?_
                have i_213 : z_212.toInt = u_150.toInt + 1 := in_inc ez_212 (by decide) iv_166 (by decide) (by decide)
                have iv_214 : IV z_212 1 6 := iz1 i_213 iv_166 (by decide) (by decide)
                refine k_goto 98 X dX11_drawNight_188 (by decide) ?_
                refine k_sub [(cO11_i1r1i10r1i2r5i2r12i3r4i2 h0 m_thrown a_tape m_taped m_size m_at m_end m_token m_whole m_nameSize m_fault m_place m_trouble a_letters m_failed m_hasHouse a_r a_fresh a_st a_undone a_kept m_undos m_images a_from a_begin a_motor a_change a_startFrame a_changeFrame a_lostAt a_blackAt a_slips a_leftArc a_died a_arcs m_bestSum m_nearest m_nearestTown a_there a_backAt a_sorted a_parts u_152 u_153), (cAI g a_r 311 d_r), (cAI g a_st 44 d_st), (cAI g a_from 8 d_from2_145), (cAI g a_begin 8 d_begin2_141), (cAI g a_motor 8 d_motor2_147), (cAI g a_change 8 d_change2_143), (cAI g a_startFrame 8 d_startFrame2_148), (cAI g a_changeFrame 8 d_changeFrame2_144), (cAI g a_lostAt 8 d_lostAt2_146), (cAI g a_blackAt 8 d_blackAt2_142), (cAI g a_slips 8 fa_140)] [10, 9, 11, 0, 1, 2, 3, 4, 5, 6, 7, 8] rfl (by decide) rfl ?_
                exact ih_156 _ (by omega) z_212 u_152 u_153 rfl (iv_w iv_214 (by decide) (by decide))
      · skip
        have iv_215 : IV r_47 1 1 := iv_neL h_49 iv_48 (show IV 0 0 0 from (by decide)) (by decide)
        refine k_goto 191 X dX11_drawNight_56 (by decide) ?_
        obtain ⟨z_216, ez_216⟩ : ∃ y : Int32, u_34 + Int32.ofInt 1 = y := ⟨_, rfl⟩
        refine k_iinc z_216 [(3, .int z_216), (2, .int z_4), (0, .ref h0), (1, .int p0)] 0 X dX11_drawNight_191 rfl ez_216 (by decide) rfl ?_
        have i_217 : z_216.toInt = u_34.toInt + 1 := in_inc ez_216 (by decide) iv_44 (by decide) (by decide)
        have iv_218 : IV z_216 1 8 := iz1 i_217 iv_44 (by decide) (by decide)
        refine k_goto 43 X dX11_drawNight_194 (by decide) ?_
        refine k_sub [(cO11_i1r1i10r1i2r5i2r12i3r4i2 h0 m_thrown a_tape m_taped m_size m_at m_end m_token m_whole m_nameSize m_fault m_place m_trouble a_letters m_failed m_hasHouse a_r a_fresh a_st a_undone a_kept m_undos m_images a_from a_begin a_motor a_change a_startFrame a_changeFrame a_lostAt a_blackAt a_slips a_leftArc a_died a_arcs m_bestSum m_nearest m_nearestTown a_there a_backAt a_sorted a_parts u_36 u_37), (cAI g a_r 311 d_r), (cAI g a_st 44 d_st), (cAI g a_from 8 uf_29), (cAI g a_begin 8 uf_25), (cAI g a_motor 8 uf_31), (cAI g a_change 8 uf_27), (cAI g a_startFrame 8 uf_33), (cAI g a_changeFrame 8 uf_28), (cAI g a_lostAt 8 uf_30), (cAI g a_blackAt 8 uf_26), (cAI g a_slips 8 uf_32)] [8, 9, 10, 11, 0, 1, 2, 3, 4, 5, 6, 7] rfl (by decide) rfl ?_
        exact ih_40 _ (by omega) uf_25 uf_26 uf_27 uf_28 uf_29 uf_30 uf_31 uf_32 uf_33 z_216 u_36 u_37 rfl (iv_w iv_218 (by decide) (by decide))
  · skip
    have j_219 : u_8.toInt < 8 := iv_nle h_13
    have iv_220 : IV u_8 0 7 := iv_ltL (iv_nle h_13) hv_9 (show IV 8 8 8 from (by decide)) (by decide)
    refine k_aload_n X dX11_drawNight_18 2 rfl ?_
    refine k_get (ci := 11) X inlX11 rfl 30 (by decide) dX11_drawNight_19 mw183 0 rfl rfl ?_
    refine k_iload_n X dX11_drawNight_22 0 rfl ?_
    refine k_iconst (v := 0) X dX11_drawNight_23 (by decide) ?_
    refine k_iast [(cO11_i1r1i10r1i2r5i2r12i3r4i2 h0 m_thrown a_tape m_taped m_size m_at m_end m_token m_whole m_nameSize m_fault m_place m_trouble a_letters m_failed m_hasHouse a_r a_fresh a_st a_undone a_kept m_undos m_images a_from a_begin a_motor a_change a_startFrame a_changeFrame a_lostAt a_blackAt a_slips a_leftArc a_died a_arcs m_bestSum m_nearest m_nearestTown a_there a_backAt a_sorted a_parts m_seed1 m_darkNow), (cAI g a_r 311 d_r), (cAI g a_st 44 d_st), (cAI g a_from 8 d_from), (cAI g a_begin 8 d_begin), (cAI g a_motor 8 d_motor), (cAI g a_change 8 d_change), (cAI g a_startFrame 8 d_startFrame), (cAI g a_changeFrame 8 d_changeFrame), (cAI g a_lostAt 8 d_lostAt), (cAI g a_blackAt 8 d_blackAt), (cAI g a_slips 8 (upd uf_7 (u_8 : Int32).toNatClampNeg 0))] X dX11_drawNight_24 11 rfl (iv_in iv_220 (by decide) (by decide)) rfl ?_
    refine (fun hg : ∀ fa_221 : Nat → Int32, Wk p l e _ s m args below meth c _ A g _ _ _ [(cO11_i1r1i10r1i2r5i2r12i3r4i2 h0 m_thrown a_tape m_taped m_size m_at m_end m_token m_whole m_nameSize m_fault m_place m_trouble a_letters m_failed m_hasHouse a_r a_fresh a_st a_undone a_kept m_undos m_images a_from a_begin a_motor a_change a_startFrame a_changeFrame a_lostAt a_blackAt a_slips a_leftArc a_died a_arcs m_bestSum m_nearest m_nearestTown a_there a_backAt a_sorted a_parts m_seed1 m_darkNow), (cAI g a_r 311 d_r), (cAI g a_st 44 d_st), (cAI g a_from 8 d_from), (cAI g a_begin 8 d_begin), (cAI g a_motor 8 d_motor), (cAI g a_change 8 d_change), (cAI g a_startFrame 8 d_startFrame), (cAI g a_changeFrame 8 d_changeFrame), (cAI g a_lostAt 8 d_lostAt), (cAI g a_blackAt 8 d_blackAt), (cAI g a_slips 8 fa_221)] _ _ _ => hg _) (fun fa_221 => ?_)
    obtain ⟨z_222, ez_222⟩ : ∃ y : Int32, u_8 + Int32.ofInt 1 = y := ⟨_, rfl⟩
    refine k_iinc z_222 [(3, .int z_222), (2, .int z_4), (0, .ref h0), (1, .int p0)] 0 X dX11_drawNight_25 rfl ez_222 (by decide) rfl ?_
    have i_223 : z_222.toInt = u_8.toInt + 1 := in_inc ez_222 (by decide) iv_220 (by decide) (by decide)
    have iv_224 : IV z_222 1 8 := iz1 i_223 iv_220 (by decide) (by decide)
    refine k_goto 12 X dX11_drawNight_28 (by decide) ?_
    exact ih_12 _ (by omega) fa_221 z_222 rfl (iv_w iv_224 (by decide) (by decide))

theorem dX11_dark_0 : decode cX11_dark 0 = .ok (.aload_n 0, 1) := dk_42 rfl
theorem dX11_dark_1 : decode cX11_dark 1 = .ok (.invokevirtual 200, 3) := dk_182 rfl rfl rfl rfl
theorem dX11_dark_4 : decode cX11_dark 4 = .ok (.aload_n 0, 1) := dk_42 rfl
theorem dX11_dark_5 : decode cX11_dark 5 = .ok (.iload_n 1, 1) := dk_27 rfl
theorem dX11_dark_6 : decode cX11_dark 6 = .ok (.invokevirtual 370, 3) := dk_182 rfl rfl rfl rfl
theorem dX11_dark_9 : decode cX11_dark 9 = .ok (.ifCond .ne 9, 3) := dk_154 rfl rfl rfl (by decide)
theorem dX11_dark_12 : decode cX11_dark 12 = .ok (.aload_n 0, 1) := dk_42 rfl
theorem dX11_dark_13 : decode cX11_dark 13 = .ok (.iconst 1, 1) := dk_4 rfl
theorem dX11_dark_14 : decode cX11_dark 14 = .ok (.invokevirtual 203, 3) := dk_182 rfl rfl rfl rfl
theorem dX11_dark_17 : decode cX11_dark 17 = .ok (.ireturn, 1) := dk_172 rfl
theorem dX11_dark_18 : decode cX11_dark 18 = .ok (.iload_n 2, 1) := dk_28 rfl
theorem dX11_dark_19 : decode cX11_dark 19 = .ok (.iconst 0, 1) := dk_3 rfl
theorem dX11_dark_20 : decode cX11_dark 20 = .ok (.ldc_w 468, 3) := dk_19 rfl rfl rfl rfl
theorem dX11_dark_23 : decode cX11_dark 23 = .ok (.invokestatic 182, 3) := dk_184 rfl rfl rfl rfl
theorem dX11_dark_26 : decode cX11_dark 26 = .ok (.ifCond .ne 9, 3) := dk_154 rfl rfl rfl (by decide)
theorem dX11_dark_29 : decode cX11_dark 29 = .ok (.aload_n 0, 1) := dk_42 rfl
theorem dX11_dark_30 : decode cX11_dark 30 = .ok (.iconst 2, 1) := dk_5 rfl
theorem dX11_dark_31 : decode cX11_dark 31 = .ok (.invokevirtual 203, 3) := dk_182 rfl rfl rfl rfl
theorem dX11_dark_34 : decode cX11_dark 34 = .ok (.ireturn, 1) := dk_172 rfl
theorem dX11_dark_35 : decode cX11_dark 35 = .ok (.aload_n 0, 1) := dk_42 rfl
theorem dX11_dark_36 : decode cX11_dark 36 = .ok (.iload_n 2, 1) := dk_28 rfl
theorem dX11_dark_37 : decode cX11_dark 37 = .ok (.putfield 458, 3) := dk_181 rfl rfl rfl rfl
theorem dX11_dark_40 : decode cX11_dark 40 = .ok (.aload_n 0, 1) := dk_42 rfl
theorem dX11_dark_41 : decode cX11_dark 41 = .ok (.iload_n 1, 1) := dk_27 rfl
theorem dX11_dark_42 : decode cX11_dark 42 = .ok (.invokevirtual 469, 3) := dk_182 rfl rfl rfl rfl
theorem dX11_dark_45 : decode cX11_dark 45 = .ok (.aload_n 0, 1) := dk_42 rfl
theorem dX11_dark_46 : decode cX11_dark 46 = .ok (.getfield 462, 3) := dk_180 rfl rfl rfl rfl
theorem dX11_dark_49 : decode cX11_dark 49 = .ok (.aload_n 0, 1) := dk_42 rfl
theorem dX11_dark_50 : decode cX11_dark 50 = .ok (.iconst 1, 1) := dk_4 rfl
theorem dX11_dark_51 : decode cX11_dark 51 = .ok (.invokevirtual 382, 3) := dk_182 rfl rfl rfl rfl
theorem dX11_dark_54 : decode cX11_dark 54 = .ok (.iadd, 1) := dk_96 rfl
theorem dX11_dark_55 : decode cX11_dark 55 = .ok (.ireturn, 1) := dk_172 rfl
set_option maxHeartbeats 4000000 in
set_option maxRecDepth 100000 in
theorem m_dark (l : Launch) (g : Gx) (h0 : Nat) (p0 : Int32) (p1 : Int32) (m_thrown : Int32) (a_tape : Nat) (m_taped : Int32) (m_size : Int32) (m_at : Int32) (m_end : Int32) (m_token : Int32) (m_whole : Int32) (m_nameSize : Int32) (m_fault : Int32) (m_place : Int32) (m_trouble : Int32) (a_letters : Nat) (m_failed : Int32) (m_hasHouse : Int32) (a_r : Nat) (a_fresh : Nat) (a_st : Nat) (a_undone : Nat) (a_kept : Nat) (m_undos : Int32) (m_images : Int32) (a_from : Nat) (a_begin : Nat) (a_motor : Nat) (a_change : Nat) (a_startFrame : Nat) (a_changeFrame : Nat) (a_lostAt : Nat) (a_blackAt : Nat) (a_slips : Nat) (a_leftArc : Nat) (a_died : Nat) (a_arcs : Nat) (m_bestSum : Int32) (m_nearest : Int32) (m_nearestTown : Int32) (a_there : Nat) (a_backAt : Nat) (a_sorted : Nat) (a_parts : Nat) (m_seed1 : Int32) (m_darkNow : Int32) (d_r : Nat → Int32) (d_st : Nat → Int32) (d_from : Nat → Int32) (d_begin : Nat → Int32) (d_motor : Nat → Int32) (d_change : Nat → Int32) (d_startFrame : Nat → Int32) (d_changeFrame : Nat → Int32) (d_lostAt : Nat → Int32) (d_blackAt : Nat → Int32) (d_slips : Nat → Int32) (hv_m_hasHouse : IV m_hasHouse 0 1) (hp_d_r : RInv d_r) : cI l g yX11_dark cX11_dark 3 (some .int) 5 112 0 0 [.ref h0, .int p0, .int p1] [(cO11_i1r1i10r1i2r5i2r12i3r4i2 h0 m_thrown a_tape m_taped m_size m_at m_end m_token m_whole m_nameSize m_fault m_place m_trouble a_letters m_failed m_hasHouse a_r a_fresh a_st a_undone a_kept m_undos m_images a_from a_begin a_motor a_change a_startFrame a_changeFrame a_lostAt a_blackAt a_slips a_leftArc a_died a_arcs m_bestSum m_nearest m_nearestTown a_there a_backAt a_sorted a_parts m_seed1 m_darkNow), (cAI g a_r 311 d_r), (cAI g a_st 44 d_st), (cAI g a_from 8 d_from), (cAI g a_begin 8 d_begin), (cAI g a_motor 8 d_motor), (cAI g a_change 8 d_change), (cAI g a_startFrame 8 d_startFrame), (cAI g a_changeFrame 8 d_changeFrame), (cAI g a_lostAt 8 d_lostAt), (cAI g a_blackAt 8 d_blackAt), (cAI g a_slips 8 d_slips)] (fun r w => ∃ (d_begin2 : Nat → Int32) (d_blackAt2 : Nat → Int32) (d_change2 : Nat → Int32) (d_changeFrame2 : Nat → Int32) (m_darkNow2 : Int32) (d_from2 : Nat → Int32) (d_lostAt2 : Nat → Int32) (d_motor2 : Nat → Int32) (m_seed12 : Int32) (d_slips2 : Nat → Int32) (d_startFrame2 : Nat → Int32) (m_thrown2 : Int32) (m_trouble2 : Int32), w = [(cO11_i1r1i10r1i2r5i2r12i3r4i2 h0 m_thrown2 a_tape m_taped m_size m_at m_end m_token m_whole m_nameSize m_fault m_place m_trouble2 a_letters m_failed m_hasHouse a_r a_fresh a_st a_undone a_kept m_undos m_images a_from a_begin a_motor a_change a_startFrame a_changeFrame a_lostAt a_blackAt a_slips a_leftArc a_died a_arcs m_bestSum m_nearest m_nearestTown a_there a_backAt a_sorted a_parts m_seed12 m_darkNow2), (cAI g a_r 311 d_r), (cAI g a_st 44 d_st), (cAI g a_from 8 d_from2), (cAI g a_begin 8 d_begin2), (cAI g a_motor 8 d_motor2), (cAI g a_change 8 d_change2), (cAI g a_startFrame 8 d_startFrame2), (cAI g a_changeFrame 8 d_changeFrame2), (cAI g a_lostAt 8 d_lostAt2), (cAI g a_blackAt 8 d_blackAt2), (cAI g a_slips 8 d_slips2)]) := by
  refine cI.of (by decide) (Nat.le_of_ble_eq_true rfl) ?_
  intro p e s m args below meth c A X hr hi
  refine k_lveq [(0, .ref h0), (1, .int p0), (2, .int p1)] rfl ?_
  refine k_aload_n X dX11_dark_0 0 rfl ?_
  refine k_callVV (n := 0) (As := []) (st := []) X [(cO11_i1r1i10r1i2r5i2r12i3r4i2 h0 m_thrown a_tape m_taped m_size m_at m_end m_token m_whole m_nameSize m_fault m_place m_trouble a_letters m_failed m_hasHouse a_r a_fresh a_st a_undone a_kept m_undos m_images a_from a_begin a_motor a_change a_startFrame a_changeFrame a_lostAt a_blackAt a_slips a_leftArc a_died a_arcs m_bestSum m_nearest m_nearestTown a_there a_backAt a_sorted a_parts m_seed1 m_darkNow)] [(cAI g a_r 311 d_r), (cAI g a_st 44 d_st), (cAI g a_from 8 d_from), (cAI g a_begin 8 d_begin), (cAI g a_motor 8 d_motor), (cAI g a_change 8 d_change), (cAI g a_startFrame 8 d_startFrame), (cAI g a_changeFrame 8 d_changeFrame), (cAI g a_lostAt 8 d_lostAt), (cAI g a_blackAt 8 d_blackAt), (cAI g a_slips 8 d_slips)] [0] [1, 2, 3, 4, 5, 6, 7, 8, 9, 10, 11] (m_good l g h0 m_thrown a_tape m_taped m_size m_at m_end m_token m_whole m_nameSize m_fault m_place m_trouble a_letters m_failed m_hasHouse a_r a_fresh a_st a_undone a_kept m_undos m_images a_from a_begin a_motor a_change a_startFrame a_changeFrame a_lostAt a_blackAt a_slips a_leftArc a_died a_arcs m_bestSum m_nearest m_nearestTown a_there a_backAt a_sorted a_parts m_seed1 m_darkNow) dX11_dark_1 mw477 mw478 mw479 mw5 mw480 rfl 11 rfl rfl 0 _ rfl yk_yX11_good_0 rfl (Nat.le_of_ble_eq_true rfl) (Nat.le_of_ble_eq_true rfl) (Nat.le_of_ble_eq_true rfl) (Nat.le_of_ble_eq_true rfl) (Nat.le_of_ble_eq_true rfl) rfl rfl (by decide +kernel) rfl (by decide +kernel) (by decide +kernel) ?_
  rintro w ⟨m_thrown2_1, m_trouble2_2, rfl⟩
  refine k_ws [(cAI g a_r 311 d_r), (cAI g a_st 44 d_st), (cAI g a_from 8 d_from), (cAI g a_begin 8 d_begin), (cAI g a_motor 8 d_motor), (cAI g a_change 8 d_change), (cAI g a_startFrame 8 d_startFrame), (cAI g a_changeFrame 8 d_changeFrame), (cAI g a_lostAt 8 d_lostAt), (cAI g a_blackAt 8 d_blackAt), (cAI g a_slips 8 d_slips), (cO11_i1r1i10r1i2r5i2r12i3r4i2 h0 m_thrown2_1 a_tape m_taped m_size m_at m_end m_token m_whole m_nameSize m_fault m_place m_trouble2_2 a_letters m_failed m_hasHouse a_r a_fresh a_st a_undone a_kept m_undos m_images a_from a_begin a_motor a_change a_startFrame a_changeFrame a_lostAt a_blackAt a_slips a_leftArc a_died a_arcs m_bestSum m_nearest m_nearestTown a_there a_backAt a_sorted a_parts m_seed1 m_darkNow)] rfl ?_
  refine k_aload_n X dX11_dark_4 0 rfl ?_
  refine k_iload_n X dX11_dark_5 1 rfl ?_
  refine k_callVI (n := 1) (As := [.int p0]) (st := []) X [(cO11_i1r1i10r1i2r5i2r12i3r4i2 h0 m_thrown2_1 a_tape m_taped m_size m_at m_end m_token m_whole m_nameSize m_fault m_place m_trouble2_2 a_letters m_failed m_hasHouse a_r a_fresh a_st a_undone a_kept m_undos m_images a_from a_begin a_motor a_change a_startFrame a_changeFrame a_lostAt a_blackAt a_slips a_leftArc a_died a_arcs m_bestSum m_nearest m_nearestTown a_there a_backAt a_sorted a_parts m_seed1 m_darkNow), (cAI g a_r 311 d_r)] [(cAI g a_st 44 d_st), (cAI g a_from 8 d_from), (cAI g a_begin 8 d_begin), (cAI g a_motor 8 d_motor), (cAI g a_change 8 d_change), (cAI g a_startFrame 8 d_startFrame), (cAI g a_changeFrame 8 d_changeFrame), (cAI g a_lostAt 8 d_lostAt), (cAI g a_blackAt 8 d_blackAt), (cAI g a_slips 8 d_slips)] [11, 0] [1, 2, 3, 4, 5, 6, 7, 8, 9, 10] (m_isMan l g h0 p0 m_thrown2_1 a_tape m_taped m_size m_at m_end m_token m_whole m_nameSize m_fault m_place m_trouble2_2 a_letters m_failed m_hasHouse a_r a_fresh a_st a_undone a_kept m_undos m_images a_from a_begin a_motor a_change a_startFrame a_changeFrame a_lostAt a_blackAt a_slips a_leftArc a_died a_arcs m_bestSum m_nearest m_nearestTown a_there a_backAt a_sorted a_parts m_seed1 m_darkNow d_r (iv_w hv_m_hasHouse (by decide) (by decide)) hp_d_r) dX11_dark_6 mw811 mw812 mw813 mw5 mw814 rfl 11 rfl rfl 0 _ rfl yk_yX11_isMan_1 rfl (Nat.le_of_ble_eq_true rfl) (Nat.le_of_ble_eq_true rfl) (Nat.le_of_ble_eq_true rfl) (Nat.le_of_ble_eq_true rfl) (Nat.le_of_ble_eq_true rfl) rfl rfl (by decide +kernel) rfl (by decide +kernel) (by decide +kernel) ?_
  rintro r_4 w ⟨iv_5, hk_6, rfl⟩
  refine k_ws [(cAI g a_st 44 d_st), (cAI g a_from 8 d_from), (cAI g a_begin 8 d_begin), (cAI g a_motor 8 d_motor), (cAI g a_change 8 d_change), (cAI g a_startFrame 8 d_startFrame), (cAI g a_changeFrame 8 d_changeFrame), (cAI g a_lostAt 8 d_lostAt), (cAI g a_blackAt 8 d_blackAt), (cAI g a_slips 8 d_slips), (cO11_i1r1i10r1i2r5i2r12i3r4i2 h0 m_thrown2_1 a_tape m_taped m_size m_at m_end m_token m_whole m_nameSize m_fault m_place m_trouble2_2 a_letters m_failed m_hasHouse a_r a_fresh a_st a_undone a_kept m_undos m_images a_from a_begin a_motor a_change a_startFrame a_changeFrame a_lostAt a_blackAt a_slips a_leftArc a_died a_arcs m_bestSum m_nearest m_nearestTown a_there a_backAt a_sorted a_parts m_seed1 m_darkNow), (cAI g a_r 311 d_r)] rfl ?_
  refine k_if_ne 18 X dX11_dark_9 (by decide) (fun h_7 => ?_) (fun h_7 => ?_)
  · skip
    have hc_8 := hk_6.resolve_left h_7
    have iv_9 : IV p0 0 3 := iv_meet (iv_any p0) hc_8 (by decide) (by decide)
    have iv_10 : IV r_4 1 1 := iv_neL h_7 iv_5 (show IV 0 0 0 from (by decide)) (by decide)
    refine k_iload_n X dX11_dark_18 2 rfl ?_
    refine k_iconst (v := 0) X dX11_dark_19 (by decide) ?_
    refine k_ldcw (v := 65536) X dX11_dark_20 mw1420 ?_
    refine k_callSI (n := 3) (As := [.int p1, .int 0, .int 65536]) (st := []) X [] [(cAI g a_st 44 d_st), (cAI g a_from 8 d_from), (cAI g a_begin 8 d_begin), (cAI g a_motor 8 d_motor), (cAI g a_change 8 d_change), (cAI g a_startFrame 8 d_startFrame), (cAI g a_changeFrame 8 d_changeFrame), (cAI g a_lostAt 8 d_lostAt), (cAI g a_blackAt 8 d_blackAt), (cAI g a_slips 8 d_slips), (cO11_i1r1i10r1i2r5i2r12i3r4i2 h0 m_thrown2_1 a_tape m_taped m_size m_at m_end m_token m_whole m_nameSize m_fault m_place m_trouble2_2 a_letters m_failed m_hasHouse a_r a_fresh a_st a_undone a_kept m_undos m_images a_from a_begin a_motor a_change a_startFrame a_changeFrame a_lostAt a_blackAt a_slips a_leftArc a_died a_arcs m_bestSum m_nearest m_nearestTown a_there a_backAt a_sorted a_parts m_seed1 m_darkNow), (cAI g a_r 311 d_r)] [] [0, 1, 2, 3, 4, 5, 6, 7, 8, 9, 10, 11] (m_in l g p1 0 65536) dX11_dark_23 mw482 mw483 mw5 mw484 yk_yX11_in_3 rfl (Nat.le_of_ble_eq_true rfl) (Nat.le_of_ble_eq_true rfl) (Nat.le_of_ble_eq_true rfl) (Nat.le_of_ble_eq_true rfl) (Nat.le_of_ble_eq_true rfl) rfl rfl (by decide +kernel) rfl (by decide +kernel) (by decide +kernel) ?_
    rintro r_11 w ⟨iv_12, hk_13, hk_14, rfl⟩
    refine k_ws [(cAI g a_st 44 d_st), (cAI g a_from 8 d_from), (cAI g a_begin 8 d_begin), (cAI g a_motor 8 d_motor), (cAI g a_change 8 d_change), (cAI g a_startFrame 8 d_startFrame), (cAI g a_changeFrame 8 d_changeFrame), (cAI g a_lostAt 8 d_lostAt), (cAI g a_blackAt 8 d_blackAt), (cAI g a_slips 8 d_slips), (cO11_i1r1i10r1i2r5i2r12i3r4i2 h0 m_thrown2_1 a_tape m_taped m_size m_at m_end m_token m_whole m_nameSize m_fault m_place m_trouble2_2 a_letters m_failed m_hasHouse a_r a_fresh a_st a_undone a_kept m_undos m_images a_from a_begin a_motor a_change a_startFrame a_changeFrame a_lostAt a_blackAt a_slips a_leftArc a_died a_arcs m_bestSum m_nearest m_nearestTown a_there a_backAt a_sorted a_parts m_seed1 m_darkNow), (cAI g a_r 311 d_r)] rfl ?_
    refine k_if_ne 35 X dX11_dark_26 (by decide) (fun h_15 => ?_) (fun h_15 => ?_)
    · skip
      have hc_16 := hk_13.resolve_left h_15
      have j_17 : 0 ≤ p1.toInt := hc_16.1
      have iv_18 : IV p1 0 2147483647 := iv_leR hc_16.1 (show IV 0 0 0 from (by decide)) (iv_any p1) (by decide)
      have j_19 : p1.toInt ≤ 65536 := hc_16.2
      have iv_20 : IV p1 0 65536 := iv_leL hc_16.2 iv_18 (show IV 65536 65536 65536 from (by decide)) (by decide)
      have iv_21 : IV r_11 1 1 := iv_neL h_15 iv_12 (show IV 0 0 0 from (by decide)) (by decide)
      refine k_aload_n X dX11_dark_35 0 rfl ?_
      refine k_iload_n X dX11_dark_36 2 rfl ?_
      refine k_put (ci := 11) [(cAI g a_st 44 d_st), (cAI g a_from 8 d_from), (cAI g a_begin 8 d_begin), (cAI g a_motor 8 d_motor), (cAI g a_change 8 d_change), (cAI g a_startFrame 8 d_startFrame), (cAI g a_changeFrame 8 d_changeFrame), (cAI g a_lostAt 8 d_lostAt), (cAI g a_blackAt 8 d_blackAt), (cAI g a_slips 8 d_slips), (cO11_i1r1i10r1i2r5i2r12i3r4i2 h0 m_thrown2_1 a_tape m_taped m_size m_at m_end m_token m_whole m_nameSize m_fault m_place m_trouble2_2 a_letters m_failed m_hasHouse a_r a_fresh a_st a_undone a_kept m_undos m_images a_from a_begin a_motor a_change a_startFrame a_changeFrame a_lostAt a_blackAt a_slips a_leftArc a_died a_arcs m_bestSum m_nearest m_nearestTown a_there a_backAt a_sorted a_parts p1 m_darkNow), (cAI g a_r 311 d_r)] X inlX11 rfl tyX11_ok nmX11 41 (by decide) rfl dX11_dark_37 mw1421 10 rfl rfl rfl (Nat.le_of_ble_eq_true rfl) rfl ?_
      refine k_aload_n X dX11_dark_40 0 rfl ?_
      refine k_iload_n X dX11_dark_41 1 rfl ?_
      refine k_callVV (n := 1) (As := [.int p0]) (st := []) X [(cO11_i1r1i10r1i2r5i2r12i3r4i2 h0 m_thrown2_1 a_tape m_taped m_size m_at m_end m_token m_whole m_nameSize m_fault m_place m_trouble2_2 a_letters m_failed m_hasHouse a_r a_fresh a_st a_undone a_kept m_undos m_images a_from a_begin a_motor a_change a_startFrame a_changeFrame a_lostAt a_blackAt a_slips a_leftArc a_died a_arcs m_bestSum m_nearest m_nearestTown a_there a_backAt a_sorted a_parts p1 m_darkNow), (cAI g a_r 311 d_r), (cAI g a_st 44 d_st), (cAI g a_from 8 d_from), (cAI g a_begin 8 d_begin), (cAI g a_motor 8 d_motor), (cAI g a_change 8 d_change), (cAI g a_startFrame 8 d_startFrame), (cAI g a_changeFrame 8 d_changeFrame), (cAI g a_lostAt 8 d_lostAt), (cAI g a_blackAt 8 d_blackAt), (cAI g a_slips 8 d_slips)] [] [10, 11, 0, 1, 2, 3, 4, 5, 6, 7, 8, 9] [] (m_drawNight l g h0 p0 m_thrown2_1 a_tape m_taped m_size m_at m_end m_token m_whole m_nameSize m_fault m_place m_trouble2_2 a_letters m_failed m_hasHouse a_r a_fresh a_st a_undone a_kept m_undos m_images a_from a_begin a_motor a_change a_startFrame a_changeFrame a_lostAt a_blackAt a_slips a_leftArc a_died a_arcs m_bestSum m_nearest m_nearestTown a_there a_backAt a_sorted a_parts p1 m_darkNow d_r d_st d_from d_begin d_motor d_change d_startFrame d_changeFrame d_lostAt d_blackAt d_slips (iv_w iv_9 (by decide) (by decide)) hp_d_r) dX11_dark_42 mw1423 mw1424 mw1425 mw5 mw1426 rfl 11 rfl rfl 0 _ rfl yk_yX11_drawNight_1 rfl (Nat.le_of_ble_eq_true rfl) (Nat.le_of_ble_eq_true rfl) (Nat.le_of_ble_eq_true rfl) (Nat.le_of_ble_eq_true rfl) (Nat.le_of_ble_eq_true rfl) rfl rfl (by decide +kernel) rfl (by decide +kernel) (by decide +kernel) ?_
      intro w zq
      refine exL11 zq ?_
      clear zq
      intro d_begin2_22 d_blackAt2_23 d_change2_24 d_changeFrame2_25 m_darkNow2_26 d_from2_27 d_lostAt2_28 d_motor2_29 m_seed12_30 d_slips2_31 d_startFrame2_32 zq
      subst zq
      refine k_ws [(cO11_i1r1i10r1i2r5i2r12i3r4i2 h0 m_thrown2_1 a_tape m_taped m_size m_at m_end m_token m_whole m_nameSize m_fault m_place m_trouble2_2 a_letters m_failed m_hasHouse a_r a_fresh a_st a_undone a_kept m_undos m_images a_from a_begin a_motor a_change a_startFrame a_changeFrame a_lostAt a_blackAt a_slips a_leftArc a_died a_arcs m_bestSum m_nearest m_nearestTown a_there a_backAt a_sorted a_parts m_seed12_30 m_darkNow2_26), (cAI g a_r 311 d_r), (cAI g a_st 44 d_st), (cAI g a_from 8 d_from2_27), (cAI g a_begin 8 d_begin2_22), (cAI g a_motor 8 d_motor2_29), (cAI g a_change 8 d_change2_24), (cAI g a_startFrame 8 d_startFrame2_32), (cAI g a_changeFrame 8 d_changeFrame2_25), (cAI g a_lostAt 8 d_lostAt2_28), (cAI g a_blackAt 8 d_blackAt2_23), (cAI g a_slips 8 d_slips2_31)] rfl ?_
      refine k_aload_n X dX11_dark_45 0 rfl ?_
      refine k_get (ci := 11) X inlX11 rfl 42 (by decide) dX11_dark_46 mw1422 0 rfl rfl ?_
      refine k_aload_n X dX11_dark_49 0 rfl ?_
      refine k_iconst (v := 1) X dX11_dark_50 (by decide) ?_
      refine k_callVI (n := 1) (As := [.int 1]) (st := [.int m_darkNow2_26]) X [(cO11_i1r1i10r1i2r5i2r12i3r4i2 h0 m_thrown2_1 a_tape m_taped m_size m_at m_end m_token m_whole m_nameSize m_fault m_place m_trouble2_2 a_letters m_failed m_hasHouse a_r a_fresh a_st a_undone a_kept m_undos m_images a_from a_begin a_motor a_change a_startFrame a_changeFrame a_lostAt a_blackAt a_slips a_leftArc a_died a_arcs m_bestSum m_nearest m_nearestTown a_there a_backAt a_sorted a_parts m_seed12_30 m_darkNow2_26), (cAI g a_r 311 d_r), (cAI g a_st 44 d_st), (cAI g a_from 8 d_from2_27), (cAI g a_changeFrame 8 d_changeFrame2_25), (cAI g a_lostAt 8 d_lostAt2_28), (cAI g a_blackAt 8 d_blackAt2_23)] [(cAI g a_begin 8 d_begin2_22), (cAI g a_motor 8 d_motor2_29), (cAI g a_change 8 d_change2_24), (cAI g a_startFrame 8 d_startFrame2_32), (cAI g a_slips 8 d_slips2_31)] [0, 1, 2, 3, 8, 9, 10] [4, 5, 6, 7, 11] (m_sumOf l g h0 1 m_thrown2_1 a_tape m_taped m_size m_at m_end m_token m_whole m_nameSize m_fault m_place m_trouble2_2 a_letters m_failed m_hasHouse a_r a_fresh a_st a_undone a_kept m_undos m_images a_from a_begin a_motor a_change a_startFrame a_changeFrame a_lostAt a_blackAt a_slips a_leftArc a_died a_arcs m_bestSum m_nearest m_nearestTown a_there a_backAt a_sorted a_parts m_seed12_30 m_darkNow2_26 d_r d_st d_from2_27 d_changeFrame2_25 d_lostAt2_28 d_blackAt2_23 hp_d_r) dX11_dark_51 mw921 mw922 mw923 mw5 mw924 rfl 11 rfl rfl 0 _ rfl yk_yX11_sumOf_1 rfl (Nat.le_of_ble_eq_true rfl) (Nat.le_of_ble_eq_true rfl) (Nat.le_of_ble_eq_true rfl) (Nat.le_of_ble_eq_true rfl) (Nat.le_of_ble_eq_true rfl) rfl rfl (by decide +kernel) rfl (by decide +kernel) (by decide +kernel) ?_
      rintro r_34 w rfl
      refine k_ws [(cAI g a_begin 8 d_begin2_22), (cAI g a_motor 8 d_motor2_29), (cAI g a_change 8 d_change2_24), (cAI g a_startFrame 8 d_startFrame2_32), (cAI g a_slips 8 d_slips2_31), (cO11_i1r1i10r1i2r5i2r12i3r4i2 h0 m_thrown2_1 a_tape m_taped m_size m_at m_end m_token m_whole m_nameSize m_fault m_place m_trouble2_2 a_letters m_failed m_hasHouse a_r a_fresh a_st a_undone a_kept m_undos m_images a_from a_begin a_motor a_change a_startFrame a_changeFrame a_lostAt a_blackAt a_slips a_leftArc a_died a_arcs m_bestSum m_nearest m_nearestTown a_there a_backAt a_sorted a_parts m_seed12_30 m_darkNow2_26), (cAI g a_r 311 d_r), (cAI g a_st 44 d_st), (cAI g a_from 8 d_from2_27), (cAI g a_changeFrame 8 d_changeFrame2_25), (cAI g a_lostAt 8 d_lostAt2_28), (cAI g a_blackAt 8 d_blackAt2_23)] rfl ?_
      refine k_iadd X dX11_dark_54 ?_
      refine k_nm (fun z_35 ez_35 => ?_)
      exact k_iret X hr dX11_dark_55 (Nat.le_of_ble_eq_true rfl) (Nat.le_of_ble_eq_true rfl) [5, 6, 7, 8, 0, 1, 2, 3, 9, 10, 11, 4] (by decide) rfl rfl ⟨d_begin2_22, d_blackAt2_23, d_change2_24, d_changeFrame2_25, m_darkNow2_26, d_from2_27, d_lostAt2_28, d_motor2_29, m_seed12_30, d_slips2_31, d_startFrame2_32, m_thrown2_1, m_trouble2_2, rfl⟩
    · skip
      have iv_37 : IV r_11 0 0 := iv_meet iv_12 (iv_e h_15 (show IV 0 0 0 from (by decide))) (by decide) (by decide)
      have hc_38 := hk_14 (iv_eq iv_37 (show IV 0 0 0 from (by decide)))
      have j_39 : p1.toInt < 0 ∨ 65536 < p1.toInt := hc_38
      refine k_aload_n X dX11_dark_29 0 rfl ?_
      refine k_iconst (v := 2) X dX11_dark_30 (by decide) ?_
      refine k_callVI (n := 1) (As := [.int 2]) (st := []) X [(cO11_i1r1i10r1i2r5i2r12i3r4i2 h0 m_thrown2_1 a_tape m_taped m_size m_at m_end m_token m_whole m_nameSize m_fault m_place m_trouble2_2 a_letters m_failed m_hasHouse a_r a_fresh a_st a_undone a_kept m_undos m_images a_from a_begin a_motor a_change a_startFrame a_changeFrame a_lostAt a_blackAt a_slips a_leftArc a_died a_arcs m_bestSum m_nearest m_nearestTown a_there a_backAt a_sorted a_parts m_seed1 m_darkNow)] [(cAI g a_st 44 d_st), (cAI g a_from 8 d_from), (cAI g a_begin 8 d_begin), (cAI g a_motor 8 d_motor), (cAI g a_change 8 d_change), (cAI g a_startFrame 8 d_startFrame), (cAI g a_changeFrame 8 d_changeFrame), (cAI g a_lostAt 8 d_lostAt), (cAI g a_blackAt 8 d_blackAt), (cAI g a_slips 8 d_slips), (cAI g a_r 311 d_r)] [10] [0, 1, 2, 3, 4, 5, 6, 7, 8, 9, 11] (m_no l g h0 2 m_thrown2_1 a_tape m_taped m_size m_at m_end m_token m_whole m_nameSize m_fault m_place m_trouble2_2 a_letters m_failed m_hasHouse a_r a_fresh a_st a_undone a_kept m_undos m_images a_from a_begin a_motor a_change a_startFrame a_changeFrame a_lostAt a_blackAt a_slips a_leftArc a_died a_arcs m_bestSum m_nearest m_nearestTown a_there a_backAt a_sorted a_parts m_seed1 m_darkNow) dX11_dark_31 mw485 mw486 mw487 mw5 mw488 rfl 11 rfl rfl 0 _ rfl yk_yX11_no_1 rfl (Nat.le_of_ble_eq_true rfl) (Nat.le_of_ble_eq_true rfl) (Nat.le_of_ble_eq_true rfl) (Nat.le_of_ble_eq_true rfl) (Nat.le_of_ble_eq_true rfl) rfl rfl (by decide +kernel) rfl (by decide +kernel) (by decide +kernel) ?_
      rintro r_41 w ⟨m_trouble2_40, iv_42, rfl⟩
      refine k_ws [(cAI g a_st 44 d_st), (cAI g a_from 8 d_from), (cAI g a_begin 8 d_begin), (cAI g a_motor 8 d_motor), (cAI g a_change 8 d_change), (cAI g a_startFrame 8 d_startFrame), (cAI g a_changeFrame 8 d_changeFrame), (cAI g a_lostAt 8 d_lostAt), (cAI g a_blackAt 8 d_blackAt), (cAI g a_slips 8 d_slips), (cAI g a_r 311 d_r), (cO11_i1r1i10r1i2r5i2r12i3r4i2 h0 m_thrown2_1 a_tape m_taped m_size m_at m_end m_token m_whole m_nameSize m_fault m_place m_trouble2_40 a_letters m_failed m_hasHouse a_r a_fresh a_st a_undone a_kept m_undos m_images a_from a_begin a_motor a_change a_startFrame a_changeFrame a_lostAt a_blackAt a_slips a_leftArc a_died a_arcs m_bestSum m_nearest m_nearestTown a_there a_backAt a_sorted a_parts m_seed1 m_darkNow)] rfl ?_
      exact k_iret X hr dX11_dark_34 (Nat.le_of_ble_eq_true rfl) (Nat.le_of_ble_eq_true rfl) [11, 10, 0, 1, 2, 3, 4, 5, 6, 7, 8, 9] (by decide) rfl rfl ⟨d_begin, d_blackAt, d_change, d_changeFrame, m_darkNow, d_from, d_lostAt, d_motor, m_seed1, d_slips, d_startFrame, m_thrown2_1, m_trouble2_40, rfl⟩
  · skip
    have iv_43 : IV r_4 0 0 := iv_meet iv_5 (iv_e h_7 (show IV 0 0 0 from (by decide))) (by decide) (by decide)
    refine k_aload_n X dX11_dark_12 0 rfl ?_
    refine k_iconst (v := 1) X dX11_dark_13 (by decide) ?_
    refine k_callVI (n := 1) (As := [.int 1]) (st := []) X [(cO11_i1r1i10r1i2r5i2r12i3r4i2 h0 m_thrown2_1 a_tape m_taped m_size m_at m_end m_token m_whole m_nameSize m_fault m_place m_trouble2_2 a_letters m_failed m_hasHouse a_r a_fresh a_st a_undone a_kept m_undos m_images a_from a_begin a_motor a_change a_startFrame a_changeFrame a_lostAt a_blackAt a_slips a_leftArc a_died a_arcs m_bestSum m_nearest m_nearestTown a_there a_backAt a_sorted a_parts m_seed1 m_darkNow)] [(cAI g a_st 44 d_st), (cAI g a_from 8 d_from), (cAI g a_begin 8 d_begin), (cAI g a_motor 8 d_motor), (cAI g a_change 8 d_change), (cAI g a_startFrame 8 d_startFrame), (cAI g a_changeFrame 8 d_changeFrame), (cAI g a_lostAt 8 d_lostAt), (cAI g a_blackAt 8 d_blackAt), (cAI g a_slips 8 d_slips), (cAI g a_r 311 d_r)] [10] [0, 1, 2, 3, 4, 5, 6, 7, 8, 9, 11] (m_no l g h0 1 m_thrown2_1 a_tape m_taped m_size m_at m_end m_token m_whole m_nameSize m_fault m_place m_trouble2_2 a_letters m_failed m_hasHouse a_r a_fresh a_st a_undone a_kept m_undos m_images a_from a_begin a_motor a_change a_startFrame a_changeFrame a_lostAt a_blackAt a_slips a_leftArc a_died a_arcs m_bestSum m_nearest m_nearestTown a_there a_backAt a_sorted a_parts m_seed1 m_darkNow) dX11_dark_14 mw485 mw486 mw487 mw5 mw488 rfl 11 rfl rfl 0 _ rfl yk_yX11_no_1 rfl (Nat.le_of_ble_eq_true rfl) (Nat.le_of_ble_eq_true rfl) (Nat.le_of_ble_eq_true rfl) (Nat.le_of_ble_eq_true rfl) (Nat.le_of_ble_eq_true rfl) rfl rfl (by decide +kernel) rfl (by decide +kernel) (by decide +kernel) ?_
    rintro r_45 w ⟨m_trouble2_44, iv_46, rfl⟩
    refine k_ws [(cAI g a_st 44 d_st), (cAI g a_from 8 d_from), (cAI g a_begin 8 d_begin), (cAI g a_motor 8 d_motor), (cAI g a_change 8 d_change), (cAI g a_startFrame 8 d_startFrame), (cAI g a_changeFrame 8 d_changeFrame), (cAI g a_lostAt 8 d_lostAt), (cAI g a_blackAt 8 d_blackAt), (cAI g a_slips 8 d_slips), (cAI g a_r 311 d_r), (cO11_i1r1i10r1i2r5i2r12i3r4i2 h0 m_thrown2_1 a_tape m_taped m_size m_at m_end m_token m_whole m_nameSize m_fault m_place m_trouble2_44 a_letters m_failed m_hasHouse a_r a_fresh a_st a_undone a_kept m_undos m_images a_from a_begin a_motor a_change a_startFrame a_changeFrame a_lostAt a_blackAt a_slips a_leftArc a_died a_arcs m_bestSum m_nearest m_nearestTown a_there a_backAt a_sorted a_parts m_seed1 m_darkNow)] rfl ?_
    exact k_iret X hr dX11_dark_17 (Nat.le_of_ble_eq_true rfl) (Nat.le_of_ble_eq_true rfl) [11, 10, 0, 1, 2, 3, 4, 5, 6, 7, 8, 9] (by decide) rfl rfl ⟨d_begin, d_blackAt, d_change, d_changeFrame, m_darkNow, d_from, d_lostAt, d_motor, m_seed1, d_slips, d_startFrame, m_thrown2_1, m_trouble2_44, rfl⟩

theorem dX11_bestMan_0 : decode cX11_bestMan 0 = .ok (.aload_n 0, 1) := dk_42 rfl
theorem dX11_bestMan_1 : decode cX11_bestMan 1 = .ok (.invokevirtual 200, 3) := dk_182 rfl rfl rfl rfl
theorem dX11_bestMan_4 : decode cX11_bestMan 4 = .ok (.aload_n 0, 1) := dk_42 rfl
theorem dX11_bestMan_5 : decode cX11_bestMan 5 = .ok (.getfield 213, 3) := dk_180 rfl rfl rfl rfl
theorem dX11_bestMan_8 : decode cX11_bestMan 8 = .ok (.ifCond .ne 9, 3) := dk_154 rfl rfl rfl (by decide)
theorem dX11_bestMan_11 : decode cX11_bestMan 11 = .ok (.aload_n 0, 1) := dk_42 rfl
theorem dX11_bestMan_12 : decode cX11_bestMan 12 = .ok (.iconst 1, 1) := dk_4 rfl
theorem dX11_bestMan_13 : decode cX11_bestMan 13 = .ok (.invokevirtual 203, 3) := dk_182 rfl rfl rfl rfl
theorem dX11_bestMan_16 : decode cX11_bestMan 16 = .ok (.ireturn, 1) := dk_172 rfl
theorem dX11_bestMan_17 : decode cX11_bestMan 17 = .ok (.iload_n 1, 1) := dk_27 rfl
theorem dX11_bestMan_18 : decode cX11_bestMan 18 = .ok (.iconst 0, 1) := dk_3 rfl
theorem dX11_bestMan_19 : decode cX11_bestMan 19 = .ok (.ldc_w 468, 3) := dk_19 rfl rfl rfl rfl
theorem dX11_bestMan_22 : decode cX11_bestMan 22 = .ok (.invokestatic 182, 3) := dk_184 rfl rfl rfl rfl
theorem dX11_bestMan_25 : decode cX11_bestMan 25 = .ok (.ifCond .eq 13, 3) := dk_153 rfl rfl rfl (by decide)
theorem dX11_bestMan_28 : decode cX11_bestMan 28 = .ok (.iload_n 2, 1) := dk_28 rfl
theorem dX11_bestMan_29 : decode cX11_bestMan 29 = .ok (.iconst 1, 1) := dk_4 rfl
theorem dX11_bestMan_30 : decode cX11_bestMan 30 = .ok (.bipush 20, 2) := dk_16 rfl rfl (by decide)
theorem dX11_bestMan_32 : decode cX11_bestMan 32 = .ok (.invokestatic 182, 3) := dk_184 rfl rfl rfl rfl
theorem dX11_bestMan_35 : decode cX11_bestMan 35 = .ok (.ifCond .ne 9, 3) := dk_154 rfl rfl rfl (by decide)
theorem dX11_bestMan_38 : decode cX11_bestMan 38 = .ok (.aload_n 0, 1) := dk_42 rfl
theorem dX11_bestMan_39 : decode cX11_bestMan 39 = .ok (.iconst 2, 1) := dk_5 rfl
theorem dX11_bestMan_40 : decode cX11_bestMan 40 = .ok (.invokevirtual 203, 3) := dk_182 rfl rfl rfl rfl
theorem dX11_bestMan_43 : decode cX11_bestMan 43 = .ok (.ireturn, 1) := dk_172 rfl
theorem dX11_bestMan_44 : decode cX11_bestMan 44 = .ok (.iconst (-1), 1) := dk_2 rfl
theorem dX11_bestMan_45 : decode cX11_bestMan 45 = .ok (.istore_n 3, 1) := dk_62 rfl
theorem dX11_bestMan_46 : decode cX11_bestMan 46 = .ok (.ldc_w 472, 3) := dk_19 rfl rfl rfl rfl
theorem dX11_bestMan_49 : decode cX11_bestMan 49 = .ok (.istore 4, 2) := dk_54 rfl rfl rfl
theorem dX11_bestMan_51 : decode cX11_bestMan 51 = .ok (.iconst 0, 1) := dk_3 rfl
theorem dX11_bestMan_52 : decode cX11_bestMan 52 = .ok (.istore 5, 2) := dk_54 rfl rfl rfl
theorem dX11_bestMan_54 : decode cX11_bestMan 54 = .ok (.iload 5, 2) := dk_21 rfl rfl rfl
theorem dX11_bestMan_56 : decode cX11_bestMan 56 = .ok (.aload_n 0, 1) := dk_42 rfl
theorem dX11_bestMan_57 : decode cX11_bestMan 57 = .ok (.getfield 20, 3) := dk_180 rfl rfl rfl rfl
theorem dX11_bestMan_60 : decode cX11_bestMan 60 = .ok (.bipush 11, 2) := dk_16 rfl rfl (by decide)
theorem dX11_bestMan_62 : decode cX11_bestMan 62 = .ok (.iaload, 1) := dk_46 rfl
theorem dX11_bestMan_63 : decode cX11_bestMan 63 = .ok (.if_icmp .ge 82, 3) := dk_162 rfl rfl rfl (by decide)
theorem dX11_bestMan_66 : decode cX11_bestMan 66 = .ok (.aload_n 0, 1) := dk_42 rfl
theorem dX11_bestMan_67 : decode cX11_bestMan 67 = .ok (.iload_n 1, 1) := dk_27 rfl
theorem dX11_bestMan_68 : decode cX11_bestMan 68 = .ok (.putfield 458, 3) := dk_181 rfl rfl rfl rfl
theorem dX11_bestMan_71 : decode cX11_bestMan 71 = .ok (.iconst 0, 1) := dk_3 rfl
theorem dX11_bestMan_72 : decode cX11_bestMan 72 = .ok (.istore 6, 2) := dk_54 rfl rfl rfl
theorem dX11_bestMan_74 : decode cX11_bestMan 74 = .ok (.iconst 0, 1) := dk_3 rfl
theorem dX11_bestMan_75 : decode cX11_bestMan 75 = .ok (.istore 7, 2) := dk_54 rfl rfl rfl
theorem dX11_bestMan_77 : decode cX11_bestMan 77 = .ok (.iload 7, 2) := dk_21 rfl rfl rfl
theorem dX11_bestMan_79 : decode cX11_bestMan 79 = .ok (.iload_n 2, 1) := dk_28 rfl
theorem dX11_bestMan_80 : decode cX11_bestMan 80 = .ok (.if_icmp .ge 42, 3) := dk_162 rfl rfl rfl (by decide)
theorem dX11_bestMan_83 : decode cX11_bestMan 83 = .ok (.aload_n 0, 1) := dk_42 rfl
theorem dX11_bestMan_84 : decode cX11_bestMan 84 = .ok (.iload 5, 2) := dk_21 rfl rfl rfl
theorem dX11_bestMan_86 : decode cX11_bestMan 86 = .ok (.invokevirtual 469, 3) := dk_182 rfl rfl rfl rfl
theorem dX11_bestMan_89 : decode cX11_bestMan 89 = .ok (.iload 6, 2) := dk_21 rfl rfl rfl
theorem dX11_bestMan_91 : decode cX11_bestMan 91 = .ok (.aload_n 0, 1) := dk_42 rfl
theorem dX11_bestMan_92 : decode cX11_bestMan 92 = .ok (.getfield 462, 3) := dk_180 rfl rfl rfl rfl
theorem dX11_bestMan_95 : decode cX11_bestMan 95 = .ok (.aload_n 0, 1) := dk_42 rfl
theorem dX11_bestMan_96 : decode cX11_bestMan 96 = .ok (.iconst 0, 1) := dk_3 rfl
theorem dX11_bestMan_97 : decode cX11_bestMan 97 = .ok (.invokevirtual 382, 3) := by decide +kernel
theorem dX11_bestMan_100 : decode cX11_bestMan 100 = .ok (.iadd, 1) := by decide +kernel
theorem dX11_bestMan_101 : decode cX11_bestMan 101 = .ok (.aload_n 0, 1) := by decide +kernel
theorem dX11_bestMan_102 : decode cX11_bestMan 102 = .ok (.iconst 1, 1) := by decide +kernel
theorem dX11_bestMan_103 : decode cX11_bestMan 103 = .ok (.invokevirtual 382, 3) := by decide +kernel
theorem dX11_bestMan_106 : decode cX11_bestMan 106 = .ok (.iadd, 1) := by decide +kernel
theorem dX11_bestMan_107 : decode cX11_bestMan 107 = .ok (.aload_n 0, 1) := by decide +kernel
theorem dX11_bestMan_108 : decode cX11_bestMan 108 = .ok (.iconst 2, 1) := by decide +kernel
theorem dX11_bestMan_109 : decode cX11_bestMan 109 = .ok (.invokevirtual 382, 3) := by decide +kernel
theorem dX11_bestMan_112 : decode cX11_bestMan 112 = .ok (.iadd, 1) := by decide +kernel
theorem dX11_bestMan_113 : decode cX11_bestMan 113 = .ok (.iadd, 1) := by decide +kernel
theorem dX11_bestMan_114 : decode cX11_bestMan 114 = .ok (.istore 6, 2) := by decide +kernel
theorem dX11_bestMan_116 : decode cX11_bestMan 116 = .ok (.iinc 7 1, 3) := by decide +kernel
theorem dX11_bestMan_119 : decode cX11_bestMan 119 = .ok (.goto (-42), 3) := by decide +kernel
theorem dX11_bestMan_122 : decode cX11_bestMan 122 = .ok (.iload 6, 2) := by decide +kernel
theorem dX11_bestMan_124 : decode cX11_bestMan 124 = .ok (.iload 4, 2) := by decide +kernel
theorem dX11_bestMan_126 : decode cX11_bestMan 126 = .ok (.if_icmp .lt 6, 3) := by decide +kernel
theorem dX11_bestMan_129 : decode cX11_bestMan 129 = .ok (.goto 10, 3) := by decide +kernel
theorem dX11_bestMan_132 : decode cX11_bestMan 132 = .ok (.iload 5, 2) := by decide +kernel
theorem dX11_bestMan_134 : decode cX11_bestMan 134 = .ok (.istore_n 3, 1) := by decide +kernel
theorem dX11_bestMan_135 : decode cX11_bestMan 135 = .ok (.iload 6, 2) := by decide +kernel
theorem dX11_bestMan_137 : decode cX11_bestMan 137 = .ok (.istore 4, 2) := by decide +kernel
theorem dX11_bestMan_139 : decode cX11_bestMan 139 = .ok (.iinc 5 1, 3) := by decide +kernel
theorem dX11_bestMan_142 : decode cX11_bestMan 142 = .ok (.goto (-88), 3) := by decide +kernel
theorem dX11_bestMan_145 : decode cX11_bestMan 145 = .ok (.iload_n 3, 1) := by decide +kernel
theorem dX11_bestMan_146 : decode cX11_bestMan 146 = .ok (.ireturn, 1) := by decide +kernel
set_option maxHeartbeats 4000000 in
set_option maxRecDepth 100000 in
theorem m_bestMan (l : Launch) (g : Gx) (h0 : Nat) (p0 : Int32) (p1 : Int32) (m_thrown : Int32) (a_tape : Nat) (m_taped : Int32) (m_size : Int32) (m_at : Int32) (m_end : Int32) (m_token : Int32) (m_whole : Int32) (m_nameSize : Int32) (m_fault : Int32) (m_place : Int32) (m_trouble : Int32) (a_letters : Nat) (m_failed : Int32) (m_hasHouse : Int32) (a_r : Nat) (a_fresh : Nat) (a_st : Nat) (a_undone : Nat) (a_kept : Nat) (m_undos : Int32) (m_images : Int32) (a_from : Nat) (a_begin : Nat) (a_motor : Nat) (a_change : Nat) (a_startFrame : Nat) (a_changeFrame : Nat) (a_lostAt : Nat) (a_blackAt : Nat) (a_slips : Nat) (a_leftArc : Nat) (a_died : Nat) (a_arcs : Nat) (m_bestSum : Int32) (m_nearest : Int32) (m_nearestTown : Int32) (a_there : Nat) (a_backAt : Nat) (a_sorted : Nat) (a_parts : Nat) (m_seed1 : Int32) (m_darkNow : Int32) (d_r : Nat → Int32) (d_st : Nat → Int32) (d_from : Nat → Int32) (d_begin : Nat → Int32) (d_motor : Nat → Int32) (d_change : Nat → Int32) (d_startFrame : Nat → Int32) (d_changeFrame : Nat → Int32) (d_lostAt : Nat → Int32) (d_blackAt : Nat → Int32) (d_slips : Nat → Int32) (hv_m_hasHouse : IV m_hasHouse 0 1) (hp_d_r : RInv d_r) : cI l g yX11_bestMan cX11_bestMan 8 (some .int) 5 112 0 0 [.ref h0, .int p0, .int p1] [(cO11_i1r1i10r1i2r5i2r12i3r4i2 h0 m_thrown a_tape m_taped m_size m_at m_end m_token m_whole m_nameSize m_fault m_place m_trouble a_letters m_failed m_hasHouse a_r a_fresh a_st a_undone a_kept m_undos m_images a_from a_begin a_motor a_change a_startFrame a_changeFrame a_lostAt a_blackAt a_slips a_leftArc a_died a_arcs m_bestSum m_nearest m_nearestTown a_there a_backAt a_sorted a_parts m_seed1 m_darkNow), (cAI g a_r 311 d_r), (cAI g a_st 44 d_st), (cAI g a_from 8 d_from), (cAI g a_begin 8 d_begin), (cAI g a_motor 8 d_motor), (cAI g a_change 8 d_change), (cAI g a_startFrame 8 d_startFrame), (cAI g a_changeFrame 8 d_changeFrame), (cAI g a_lostAt 8 d_lostAt), (cAI g a_blackAt 8 d_blackAt), (cAI g a_slips 8 d_slips)] (fun r w => ∃ (d_begin2 : Nat → Int32) (d_blackAt2 : Nat → Int32) (d_change2 : Nat → Int32) (d_changeFrame2 : Nat → Int32) (m_darkNow2 : Int32) (d_from2 : Nat → Int32) (d_lostAt2 : Nat → Int32) (d_motor2 : Nat → Int32) (m_seed12 : Int32) (d_slips2 : Nat → Int32) (d_startFrame2 : Nat → Int32) (m_thrown2 : Int32) (m_trouble2 : Int32), w = [(cO11_i1r1i10r1i2r5i2r12i3r4i2 h0 m_thrown2 a_tape m_taped m_size m_at m_end m_token m_whole m_nameSize m_fault m_place m_trouble2 a_letters m_failed m_hasHouse a_r a_fresh a_st a_undone a_kept m_undos m_images a_from a_begin a_motor a_change a_startFrame a_changeFrame a_lostAt a_blackAt a_slips a_leftArc a_died a_arcs m_bestSum m_nearest m_nearestTown a_there a_backAt a_sorted a_parts m_seed12 m_darkNow2), (cAI g a_r 311 d_r), (cAI g a_st 44 d_st), (cAI g a_from 8 d_from2), (cAI g a_begin 8 d_begin2), (cAI g a_motor 8 d_motor2), (cAI g a_change 8 d_change2), (cAI g a_startFrame 8 d_startFrame2), (cAI g a_changeFrame 8 d_changeFrame2), (cAI g a_lostAt 8 d_lostAt2), (cAI g a_blackAt 8 d_blackAt2), (cAI g a_slips 8 d_slips2)]) := by
  refine cI.of (by decide) (Nat.le_of_ble_eq_true rfl) ?_
  intro p e s m args below meth c A X hr hi
  refine k_lveq [(0, .ref h0), (1, .int p0), (2, .int p1)] rfl ?_
  refine k_aload_n X dX11_bestMan_0 0 rfl ?_
  refine k_callVV (n := 0) (As := []) (st := []) X [(cO11_i1r1i10r1i2r5i2r12i3r4i2 h0 m_thrown a_tape m_taped m_size m_at m_end m_token m_whole m_nameSize m_fault m_place m_trouble a_letters m_failed m_hasHouse a_r a_fresh a_st a_undone a_kept m_undos m_images a_from a_begin a_motor a_change a_startFrame a_changeFrame a_lostAt a_blackAt a_slips a_leftArc a_died a_arcs m_bestSum m_nearest m_nearestTown a_there a_backAt a_sorted a_parts m_seed1 m_darkNow)] [(cAI g a_r 311 d_r), (cAI g a_st 44 d_st), (cAI g a_from 8 d_from), (cAI g a_begin 8 d_begin), (cAI g a_motor 8 d_motor), (cAI g a_change 8 d_change), (cAI g a_startFrame 8 d_startFrame), (cAI g a_changeFrame 8 d_changeFrame), (cAI g a_lostAt 8 d_lostAt), (cAI g a_blackAt 8 d_blackAt), (cAI g a_slips 8 d_slips)] [0] [1, 2, 3, 4, 5, 6, 7, 8, 9, 10, 11] (m_good l g h0 m_thrown a_tape m_taped m_size m_at m_end m_token m_whole m_nameSize m_fault m_place m_trouble a_letters m_failed m_hasHouse a_r a_fresh a_st a_undone a_kept m_undos m_images a_from a_begin a_motor a_change a_startFrame a_changeFrame a_lostAt a_blackAt a_slips a_leftArc a_died a_arcs m_bestSum m_nearest m_nearestTown a_there a_backAt a_sorted a_parts m_seed1 m_darkNow) dX11_bestMan_1 mw477 mw478 mw479 mw5 mw480 rfl 11 rfl rfl 0 _ rfl yk_yX11_good_0 rfl (Nat.le_of_ble_eq_true rfl) (Nat.le_of_ble_eq_true rfl) (Nat.le_of_ble_eq_true rfl) (Nat.le_of_ble_eq_true rfl) (Nat.le_of_ble_eq_true rfl) rfl rfl (by decide +kernel) rfl (by decide +kernel) (by decide +kernel) ?_
  rintro w ⟨m_thrown2_1, m_trouble2_2, rfl⟩
  refine k_ws [(cAI g a_r 311 d_r), (cAI g a_st 44 d_st), (cAI g a_from 8 d_from), (cAI g a_begin 8 d_begin), (cAI g a_motor 8 d_motor), (cAI g a_change 8 d_change), (cAI g a_startFrame 8 d_startFrame), (cAI g a_changeFrame 8 d_changeFrame), (cAI g a_lostAt 8 d_lostAt), (cAI g a_blackAt 8 d_blackAt), (cAI g a_slips 8 d_slips), (cO11_i1r1i10r1i2r5i2r12i3r4i2 h0 m_thrown2_1 a_tape m_taped m_size m_at m_end m_token m_whole m_nameSize m_fault m_place m_trouble2_2 a_letters m_failed m_hasHouse a_r a_fresh a_st a_undone a_kept m_undos m_images a_from a_begin a_motor a_change a_startFrame a_changeFrame a_lostAt a_blackAt a_slips a_leftArc a_died a_arcs m_bestSum m_nearest m_nearestTown a_there a_backAt a_sorted a_parts m_seed1 m_darkNow)] rfl ?_
  refine k_aload_n X dX11_bestMan_4 0 rfl ?_
  refine k_get (ci := 11) X inlX11 rfl 14 (by decide) dX11_bestMan_5 mw474 11 rfl rfl ?_
  refine k_if_ne 17 X dX11_bestMan_8 (by decide) (fun h_4 => ?_) (fun h_4 => ?_)
  · skip
    have iv_5 : IV m_hasHouse 1 1 := iv_neL h_4 hv_m_hasHouse (show IV 0 0 0 from (by decide)) (by decide)
    refine k_iload_n X dX11_bestMan_17 1 rfl ?_
    refine k_iconst (v := 0) X dX11_bestMan_18 (by decide) ?_
    refine k_ldcw (v := 65536) X dX11_bestMan_19 mw1420 ?_
    refine k_callSI (n := 3) (As := [.int p0, .int 0, .int 65536]) (st := []) X [] [(cAI g a_r 311 d_r), (cAI g a_st 44 d_st), (cAI g a_from 8 d_from), (cAI g a_begin 8 d_begin), (cAI g a_motor 8 d_motor), (cAI g a_change 8 d_change), (cAI g a_startFrame 8 d_startFrame), (cAI g a_changeFrame 8 d_changeFrame), (cAI g a_lostAt 8 d_lostAt), (cAI g a_blackAt 8 d_blackAt), (cAI g a_slips 8 d_slips), (cO11_i1r1i10r1i2r5i2r12i3r4i2 h0 m_thrown2_1 a_tape m_taped m_size m_at m_end m_token m_whole m_nameSize m_fault m_place m_trouble2_2 a_letters m_failed m_hasHouse a_r a_fresh a_st a_undone a_kept m_undos m_images a_from a_begin a_motor a_change a_startFrame a_changeFrame a_lostAt a_blackAt a_slips a_leftArc a_died a_arcs m_bestSum m_nearest m_nearestTown a_there a_backAt a_sorted a_parts m_seed1 m_darkNow)] [] [0, 1, 2, 3, 4, 5, 6, 7, 8, 9, 10, 11] (m_in l g p0 0 65536) dX11_bestMan_22 mw482 mw483 mw5 mw484 yk_yX11_in_3 rfl (Nat.le_of_ble_eq_true rfl) (Nat.le_of_ble_eq_true rfl) (Nat.le_of_ble_eq_true rfl) (Nat.le_of_ble_eq_true rfl) (Nat.le_of_ble_eq_true rfl) rfl rfl (by decide +kernel) rfl (by decide +kernel) (by decide +kernel) ?_
    rintro r_6 w ⟨iv_7, hk_8, hk_9, rfl⟩
    refine k_ws [(cAI g a_r 311 d_r), (cAI g a_st 44 d_st), (cAI g a_from 8 d_from), (cAI g a_begin 8 d_begin), (cAI g a_motor 8 d_motor), (cAI g a_change 8 d_change), (cAI g a_startFrame 8 d_startFrame), (cAI g a_changeFrame 8 d_changeFrame), (cAI g a_lostAt 8 d_lostAt), (cAI g a_blackAt 8 d_blackAt), (cAI g a_slips 8 d_slips), (cO11_i1r1i10r1i2r5i2r12i3r4i2 h0 m_thrown2_1 a_tape m_taped m_size m_at m_end m_token m_whole m_nameSize m_fault m_place m_trouble2_2 a_letters m_failed m_hasHouse a_r a_fresh a_st a_undone a_kept m_undos m_images a_from a_begin a_motor a_change a_startFrame a_changeFrame a_lostAt a_blackAt a_slips a_leftArc a_died a_arcs m_bestSum m_nearest m_nearestTown a_there a_backAt a_sorted a_parts m_seed1 m_darkNow)] rfl ?_
    refine k_if_eq 38 X dX11_bestMan_25 (by decide) (fun h_10 => ?_) (fun h_10 => ?_)
    · skip
      have iv_11 : IV r_6 0 0 := iv_meet iv_7 (iv_e h_10 (show IV 0 0 0 from (by decide))) (by decide) (by decide)
      have hc_12 := hk_9 (iv_eq iv_11 (show IV 0 0 0 from (by decide)))
      have j_13 : p0.toInt < 0 ∨ 65536 < p0.toInt := hc_12
      refine k_aload_n X dX11_bestMan_38 0 rfl ?_
      refine k_iconst (v := 2) X dX11_bestMan_39 (by decide) ?_
      refine k_callVI (n := 1) (As := [.int 2]) (st := []) X [(cO11_i1r1i10r1i2r5i2r12i3r4i2 h0 m_thrown2_1 a_tape m_taped m_size m_at m_end m_token m_whole m_nameSize m_fault m_place m_trouble2_2 a_letters m_failed m_hasHouse a_r a_fresh a_st a_undone a_kept m_undos m_images a_from a_begin a_motor a_change a_startFrame a_changeFrame a_lostAt a_blackAt a_slips a_leftArc a_died a_arcs m_bestSum m_nearest m_nearestTown a_there a_backAt a_sorted a_parts m_seed1 m_darkNow)] [(cAI g a_r 311 d_r), (cAI g a_st 44 d_st), (cAI g a_from 8 d_from), (cAI g a_begin 8 d_begin), (cAI g a_motor 8 d_motor), (cAI g a_change 8 d_change), (cAI g a_startFrame 8 d_startFrame), (cAI g a_changeFrame 8 d_changeFrame), (cAI g a_lostAt 8 d_lostAt), (cAI g a_blackAt 8 d_blackAt), (cAI g a_slips 8 d_slips)] [11] [0, 1, 2, 3, 4, 5, 6, 7, 8, 9, 10] (m_no l g h0 2 m_thrown2_1 a_tape m_taped m_size m_at m_end m_token m_whole m_nameSize m_fault m_place m_trouble2_2 a_letters m_failed m_hasHouse a_r a_fresh a_st a_undone a_kept m_undos m_images a_from a_begin a_motor a_change a_startFrame a_changeFrame a_lostAt a_blackAt a_slips a_leftArc a_died a_arcs m_bestSum m_nearest m_nearestTown a_there a_backAt a_sorted a_parts m_seed1 m_darkNow) dX11_bestMan_40 mw485 mw486 mw487 mw5 mw488 rfl 11 rfl rfl 0 _ rfl yk_yX11_no_1 rfl (Nat.le_of_ble_eq_true rfl) (Nat.le_of_ble_eq_true rfl) (Nat.le_of_ble_eq_true rfl) (Nat.le_of_ble_eq_true rfl) (Nat.le_of_ble_eq_true rfl) rfl rfl (by decide +kernel) rfl (by decide +kernel) (by decide +kernel) ?_
      rintro r_15 w ⟨m_trouble2_14, iv_16, rfl⟩
      refine k_ws [(cAI g a_r 311 d_r), (cAI g a_st 44 d_st), (cAI g a_from 8 d_from), (cAI g a_begin 8 d_begin), (cAI g a_motor 8 d_motor), (cAI g a_change 8 d_change), (cAI g a_startFrame 8 d_startFrame), (cAI g a_changeFrame 8 d_changeFrame), (cAI g a_lostAt 8 d_lostAt), (cAI g a_blackAt 8 d_blackAt), (cAI g a_slips 8 d_slips), (cO11_i1r1i10r1i2r5i2r12i3r4i2 h0 m_thrown2_1 a_tape m_taped m_size m_at m_end m_token m_whole m_nameSize m_fault m_place m_trouble2_14 a_letters m_failed m_hasHouse a_r a_fresh a_st a_undone a_kept m_undos m_images a_from a_begin a_motor a_change a_startFrame a_changeFrame a_lostAt a_blackAt a_slips a_leftArc a_died a_arcs m_bestSum m_nearest m_nearestTown a_there a_backAt a_sorted a_parts m_seed1 m_darkNow)] rfl ?_
      exact k_iret X hr dX11_bestMan_43 (Nat.le_of_ble_eq_true rfl) (Nat.le_of_ble_eq_true rfl) [11, 0, 1, 2, 3, 4, 5, 6, 7, 8, 9, 10] (by decide) rfl rfl ⟨d_begin, d_blackAt, d_change, d_changeFrame, m_darkNow, d_from, d_lostAt, d_motor, m_seed1, d_slips, d_startFrame, m_thrown2_1, m_trouble2_14, rfl⟩
    · skip
      have hc_17 := hk_8.resolve_left h_10
      have j_18 : 0 ≤ p0.toInt := hc_17.1
      have iv_19 : IV p0 0 2147483647 := iv_leR hc_17.1 (show IV 0 0 0 from (by decide)) (iv_any p0) (by decide)
      have j_20 : p0.toInt ≤ 65536 := hc_17.2
      have iv_21 : IV p0 0 65536 := iv_leL hc_17.2 iv_19 (show IV 65536 65536 65536 from (by decide)) (by decide)
      have iv_22 : IV r_6 1 1 := iv_neL h_10 iv_7 (show IV 0 0 0 from (by decide)) (by decide)
      refine k_iload_n X dX11_bestMan_28 2 rfl ?_
      refine k_iconst (v := 1) X dX11_bestMan_29 (by decide) ?_
      refine k_bipush (v := 20) X dX11_bestMan_30 (by decide) ?_
      refine k_callSI (n := 3) (As := [.int p1, .int 1, .int 20]) (st := []) X [] [(cAI g a_r 311 d_r), (cAI g a_st 44 d_st), (cAI g a_from 8 d_from), (cAI g a_begin 8 d_begin), (cAI g a_motor 8 d_motor), (cAI g a_change 8 d_change), (cAI g a_startFrame 8 d_startFrame), (cAI g a_changeFrame 8 d_changeFrame), (cAI g a_lostAt 8 d_lostAt), (cAI g a_blackAt 8 d_blackAt), (cAI g a_slips 8 d_slips), (cO11_i1r1i10r1i2r5i2r12i3r4i2 h0 m_thrown2_1 a_tape m_taped m_size m_at m_end m_token m_whole m_nameSize m_fault m_place m_trouble2_2 a_letters m_failed m_hasHouse a_r a_fresh a_st a_undone a_kept m_undos m_images a_from a_begin a_motor a_change a_startFrame a_changeFrame a_lostAt a_blackAt a_slips a_leftArc a_died a_arcs m_bestSum m_nearest m_nearestTown a_there a_backAt a_sorted a_parts m_seed1 m_darkNow)] [] [0, 1, 2, 3, 4, 5, 6, 7, 8, 9, 10, 11] (m_in l g p1 1 20) dX11_bestMan_32 mw482 mw483 mw5 mw484 yk_yX11_in_3 rfl (Nat.le_of_ble_eq_true rfl) (Nat.le_of_ble_eq_true rfl) (Nat.le_of_ble_eq_true rfl) (Nat.le_of_ble_eq_true rfl) (Nat.le_of_ble_eq_true rfl) rfl rfl (by decide +kernel) rfl (by decide +kernel) (by decide +kernel) ?_
      rintro r_23 w ⟨iv_24, hk_25, hk_26, rfl⟩
      refine k_ws [(cAI g a_r 311 d_r), (cAI g a_st 44 d_st), (cAI g a_from 8 d_from), (cAI g a_begin 8 d_begin), (cAI g a_motor 8 d_motor), (cAI g a_change 8 d_change), (cAI g a_startFrame 8 d_startFrame), (cAI g a_changeFrame 8 d_changeFrame), (cAI g a_lostAt 8 d_lostAt), (cAI g a_blackAt 8 d_blackAt), (cAI g a_slips 8 d_slips), (cO11_i1r1i10r1i2r5i2r12i3r4i2 h0 m_thrown2_1 a_tape m_taped m_size m_at m_end m_token m_whole m_nameSize m_fault m_place m_trouble2_2 a_letters m_failed m_hasHouse a_r a_fresh a_st a_undone a_kept m_undos m_images a_from a_begin a_motor a_change a_startFrame a_changeFrame a_lostAt a_blackAt a_slips a_leftArc a_died a_arcs m_bestSum m_nearest m_nearestTown a_there a_backAt a_sorted a_parts m_seed1 m_darkNow)] rfl ?_
      refine k_if_ne 44 X dX11_bestMan_35 (by decide) (fun h_27 => ?_) (fun h_27 => ?_)
      · skip
        have hc_28 := hk_25.resolve_left h_27
        have j_29 : 1 ≤ p1.toInt := hc_28.1
        have iv_30 : IV p1 1 2147483647 := iv_leR hc_28.1 (show IV 1 1 1 from (by decide)) (iv_any p1) (by decide)
        have j_31 : p1.toInt ≤ 20 := hc_28.2
        have iv_32 : IV p1 1 20 := iv_leL hc_28.2 iv_30 (show IV 20 20 20 from (by decide)) (by decide)
        have iv_33 : IV r_23 1 1 := iv_neL h_27 iv_24 (show IV 0 0 0 from (by decide)) (by decide)
        refine k_iconst (v := -1) X dX11_bestMan_44 (by decide) ?_
        refine k_istore_n [(3, .int (-1)), (0, .ref h0), (1, .int p0), (2, .int p1)] X dX11_bestMan_45 (by decide) rfl ?_
        refine k_ldcw (v := 100000000) X dX11_bestMan_46 mw1444 ?_
        refine k_istore [(4, .int 100000000), (3, .int (-1)), (0, .ref h0), (1, .int p0), (2, .int p1)] X dX11_bestMan_49 (by decide) rfl ?_
        refine k_iconst (v := 0) X dX11_bestMan_51 (by decide) ?_
        refine k_istore [(5, .int 0), (4, .int 100000000), (3, .int (-1)), (0, .ref h0), (1, .int p0), (2, .int p1)] X dX11_bestMan_52 (by decide) rfl ?_
        refine (fun hL : ∀ (nn_51 : Nat) (uf_34 : Nat → Int32) (uf_35 : Nat → Int32) (uf_36 : Nat → Int32) (uf_37 : Nat → Int32) (uf_38 : Nat → Int32) (uf_39 : Nat → Int32) (uf_40 : Nat → Int32) (uf_41 : Nat → Int32) (uf_42 : Nat → Int32) (u_43 : Int32) (u_45 : Int32) (u_47 : Int32) (u_49 : Int32) (u_50 : Int32), (2147483647 - u_47.toInt).toNat = nn_51 → (IV u_43 (-1) 3) → (IV u_45 (-2147483648) 100000000) → (IV u_47 0 8) → Wk p l e _ s m args below meth c _ A g _ _ _ [(cAI g a_r 311 d_r), (cAI g a_st 44 d_st), (cAI g a_from 8 uf_38), (cAI g a_begin 8 uf_34), (cAI g a_motor 8 uf_40), (cAI g a_change 8 uf_36), (cAI g a_startFrame 8 uf_42), (cAI g a_changeFrame 8 uf_37), (cAI g a_lostAt 8 uf_39), (cAI g a_blackAt 8 uf_35), (cAI g a_slips 8 uf_41), (cO11_i1r1i10r1i2r5i2r12i3r4i2 h0 m_thrown2_1 a_tape m_taped m_size m_at m_end m_token m_whole m_nameSize m_fault m_place m_trouble2_2 a_letters m_failed m_hasHouse a_r a_fresh a_st a_undone a_kept m_undos m_images a_from a_begin a_motor a_change a_startFrame a_changeFrame a_lostAt a_blackAt a_slips a_leftArc a_died a_arcs m_bestSum m_nearest m_nearestTown a_there a_backAt a_sorted a_parts u_49 u_50)] [(5, .int u_47), (4, .int u_45), (3, .int u_43), (0, .ref h0), (1, .int p0), (2, .int p1)] 54 [] => hL _ d_begin d_blackAt d_change d_changeFrame d_from d_lostAt d_motor d_slips d_startFrame ((-1)) 100000000 0 m_seed1 m_darkNow rfl (iv_w (show IV (-1) (-1) (-1) from (by decide)) (by decide) (by decide)) (iv_w (show IV 100000000 100000000 100000000 from (by decide)) (by decide) (by decide)) (iv_w (show IV 0 0 0 from (by decide)) (by decide) (by decide))) ?_
        refine fun nn_51 => Nat.strongRecOn nn_51 (fun nn_51 ih_53 => ?_)
        intro uf_34 uf_35 uf_36 uf_37 uf_38 uf_39 uf_40 uf_41 uf_42 u_43 u_45 u_47 u_49 u_50 hm_52 hv_44 hv_46 hv_48
        refine k_iload X dX11_bestMan_54 0 rfl ?_
        refine k_aload_n X dX11_bestMan_56 3 rfl ?_
        refine k_get (ci := 11) X inlX11 rfl 15 (by decide) dX11_bestMan_57 mw170 11 rfl rfl ?_
        refine k_bipush (v := 11) X dX11_bestMan_60 (by decide) ?_
        refine k_iald X dX11_bestMan_62 0 rfl (by unfold vp_in; decide) ?_
        refine k_nm (fun z_54 ez_54 => ?_)
        have i_55 : z_54.toInt = (d_r 11).toInt := by rw [ez_54]; rfl
        have iv_56 : IV z_54 0 4 := rb_11 ez_54 hp_d_r
        refine k_ic_ge 145 X dX11_bestMan_63 (by decide) (fun h_57 => ?_) (fun h_57 => ?_)
        · skip
          have j_58 : z_54.toInt ≤ u_47.toInt := iv_le h_57
          refine k_iload_n X dX11_bestMan_145 2 rfl ?_
          exact k_iret X hr dX11_bestMan_146 (Nat.le_of_ble_eq_true rfl) (Nat.le_of_ble_eq_true rfl) [11, 0, 1, 2, 3, 4, 5, 6, 7, 8, 9, 10] (by decide) rfl rfl ⟨uf_34, uf_35, uf_36, uf_37, u_50, uf_38, uf_39, uf_40, u_49, uf_41, uf_42, m_thrown2_1, m_trouble2_2, rfl⟩
        · skip
          have j_59 : u_47.toInt < z_54.toInt := iv_nle h_57
          have iv_60 : IV u_47 0 3 := iv_ltL (iv_nle h_57) hv_48 iv_56 (by decide)
          have iv_61 : IV z_54 1 4 := iv_ltR (iv_nle h_57) hv_48 iv_56 (by decide)
          refine k_aload_n X dX11_bestMan_66 3 rfl ?_
          refine k_iload_n X dX11_bestMan_67 4 rfl ?_
          refine k_put (ci := 11) [(cAI g a_r 311 d_r), (cAI g a_st 44 d_st), (cAI g a_from 8 uf_38), (cAI g a_begin 8 uf_34), (cAI g a_motor 8 uf_40), (cAI g a_change 8 uf_36), (cAI g a_startFrame 8 uf_42), (cAI g a_changeFrame 8 uf_37), (cAI g a_lostAt 8 uf_39), (cAI g a_blackAt 8 uf_35), (cAI g a_slips 8 uf_41), (cO11_i1r1i10r1i2r5i2r12i3r4i2 h0 m_thrown2_1 a_tape m_taped m_size m_at m_end m_token m_whole m_nameSize m_fault m_place m_trouble2_2 a_letters m_failed m_hasHouse a_r a_fresh a_st a_undone a_kept m_undos m_images a_from a_begin a_motor a_change a_startFrame a_changeFrame a_lostAt a_blackAt a_slips a_leftArc a_died a_arcs m_bestSum m_nearest m_nearestTown a_there a_backAt a_sorted a_parts p0 u_50)] X inlX11 rfl tyX11_ok nmX11 41 (by decide) rfl dX11_bestMan_68 mw1421 11 rfl rfl rfl (Nat.le_of_ble_eq_true rfl) rfl ?_
          refine k_iconst (v := 0) X dX11_bestMan_71 (by decide) ?_
          refine k_istore [(6, .int 0), (5, .int u_47), (4, .int u_45), (3, .int u_43), (0, .ref h0), (1, .int p0), (2, .int p1)] X dX11_bestMan_72 (by decide) rfl ?_
          refine k_iconst (v := 0) X dX11_bestMan_74 (by decide) ?_
          refine k_istore [(7, .int 0), (6, .int 0), (5, .int u_47), (4, .int u_45), (3, .int u_43), (0, .ref h0), (1, .int p0), (2, .int p1)] X dX11_bestMan_75 (by decide) rfl ?_
          refine (fun hL : ∀ (nn_76 : Nat) (uf_62 : Nat → Int32) (uf_63 : Nat → Int32) (uf_64 : Nat → Int32) (uf_65 : Nat → Int32) (uf_66 : Nat → Int32) (uf_67 : Nat → Int32) (uf_68 : Nat → Int32) (uf_69 : Nat → Int32) (uf_70 : Nat → Int32) (u_71 : Int32) (u_72 : Int32) (u_74 : Int32) (u_75 : Int32), (p1.toInt - u_72.toInt).toNat = nn_76 → (IV u_72 0 255) → Wk p l e _ s m args below meth c _ A g _ _ _ [(cAI g a_r 311 d_r), (cAI g a_st 44 d_st), (cAI g a_from 8 uf_66), (cAI g a_begin 8 uf_62), (cAI g a_motor 8 uf_68), (cAI g a_change 8 uf_64), (cAI g a_startFrame 8 uf_70), (cAI g a_changeFrame 8 uf_65), (cAI g a_lostAt 8 uf_67), (cAI g a_blackAt 8 uf_63), (cAI g a_slips 8 uf_69), (cO11_i1r1i10r1i2r5i2r12i3r4i2 h0 m_thrown2_1 a_tape m_taped m_size m_at m_end m_token m_whole m_nameSize m_fault m_place m_trouble2_2 a_letters m_failed m_hasHouse a_r a_fresh a_st a_undone a_kept m_undos m_images a_from a_begin a_motor a_change a_startFrame a_changeFrame a_lostAt a_blackAt a_slips a_leftArc a_died a_arcs m_bestSum m_nearest m_nearestTown a_there a_backAt a_sorted a_parts u_74 u_75)] [(7, .int u_72), (6, .int u_71), (5, .int u_47), (4, .int u_45), (3, .int u_43), (0, .ref h0), (1, .int p0), (2, .int p1)] 77 [] => hL _ uf_34 uf_35 uf_36 uf_37 uf_38 uf_39 uf_40 uf_41 uf_42 0 0 p0 u_50 rfl (iv_w (show IV 0 0 0 from (by decide)) (by decide) (by decide))) ?_
          refine fun nn_76 => Nat.strongRecOn nn_76 (fun nn_76 ih_78 => ?_)
          intro uf_62 uf_63 uf_64 uf_65 uf_66 uf_67 uf_68 uf_69 uf_70 u_71 u_72 u_74 u_75 hm_77 hv_73
          refine k_iload X dX11_bestMan_77 0 rfl ?_
          refine k_iload_n X dX11_bestMan_79 7 rfl ?_
          refine k_ic_ge 122 X dX11_bestMan_80 (by decide) (fun h_79 => ?_) (fun h_79 => ?_)
          · skip
            have j_80 : p1.toInt ≤ u_72.toInt := iv_le h_79
            have iv_81 : IV u_72 1 255 := iv_leR (iv_le h_79) iv_32 hv_73 (by decide)
            refine k_iload X dX11_bestMan_122 1 rfl ?_
            refine k_iload X dX11_bestMan_124 3 rfl ?_
            refine k_ic_lt 132 X dX11_bestMan_126 (by decide) (fun h_82 => ?_) (fun h_82 => ?_)
            · skip
              have j_83 : u_71.toInt < u_45.toInt := iv_lt h_82
              have iv_84 : IV u_71 (-2147483648) 99999999 := iv_ltL (iv_lt h_82) (iv_any u_71) hv_46 (by decide)
              have iv_85 : IV u_45 (-2147483647) 100000000 := iv_ltR (iv_lt h_82) (iv_any u_71) hv_46 (by decide)
              refine k_iload X dX11_bestMan_132 2 rfl ?_
              refine k_istore_n [(3, .int u_47), (7, .int u_72), (6, .int u_71), (5, .int u_47), (4, .int u_45), (0, .ref h0), (1, .int p0), (2, .int p1)] X dX11_bestMan_134 (by decide) rfl ?_
              refine k_iload X dX11_bestMan_135 2 rfl ?_
              refine k_istore [(4, .int u_71), (3, .int u_47), (7, .int u_72), (6, .int u_71), (5, .int u_47), (0, .ref h0), (1, .int p0), (2, .int p1)] X dX11_bestMan_137 (by decide) rfl ?_
              obtain ⟨z_86, ez_86⟩ : ∃ y : Int32, u_47 + Int32.ofInt 1 = y := ⟨_, rfl⟩
              refine k_iinc z_86 [(5, .int z_86), (4, .int u_71), (3, .int u_47), (7, .int u_72), (6, .int u_71), (0, .ref h0), (1, .int p0), (2, .int p1)] 4 X dX11_bestMan_139 rfl ez_86 (by decide) rfl ?_
              have i_87 : z_86.toInt = u_47.toInt + 1 := in_inc ez_86 (by decide) iv_60 (by decide) (by decide)
              have iv_88 : IV z_86 1 4 := iz1 i_87 iv_60 (by decide) (by decide)
              refine k_goto 54 X dX11_bestMan_142 (by decide) ?_
              refine k_lv [(5, .int z_86), (4, .int u_71), (3, .int u_47), (0, .ref h0), (1, .int p0), (2, .int p1)] [0, 1, 2, 5, 6, 7] rfl ?_
              exact ih_53 _ (by omega) uf_62 uf_63 uf_64 uf_65 uf_66 uf_67 uf_68 uf_69 uf_70 u_47 u_71 z_86 u_74 u_75 rfl (iv_w iv_60 (by decide) (by decide)) (iv_w iv_84 (by decide) (by decide)) (iv_w iv_88 (by decide) (by decide))
            · skip
              have j_89 : u_45.toInt ≤ u_71.toInt := iv_nlt h_82
              refine k_goto 139 X dX11_bestMan_129 (by decide) ?_
              obtain ⟨z_90, ez_90⟩ : ∃ y : Int32, u_47 + Int32.ofInt 1 = y := ⟨_, rfl⟩
              refine k_iinc z_90 [(5, .int z_90), (7, .int u_72), (6, .int u_71), (4, .int u_45), (3, .int u_43), (0, .ref h0), (1, .int p0), (2, .int p1)] 2 X dX11_bestMan_139 rfl ez_90 (by decide) rfl ?_
              have i_91 : z_90.toInt = u_47.toInt + 1 := in_inc ez_90 (by decide) iv_60 (by decide) (by decide)
              have iv_92 : IV z_90 1 4 := iz1 i_91 iv_60 (by decide) (by decide)
              refine k_goto 54 X dX11_bestMan_142 (by decide) ?_
              refine k_lv [(5, .int z_90), (4, .int u_45), (3, .int u_43), (0, .ref h0), (1, .int p0), (2, .int p1)] [0, 3, 4, 5, 6, 7] rfl ?_
              exact ih_53 _ (by omega) uf_62 uf_63 uf_64 uf_65 uf_66 uf_67 uf_68 uf_69 uf_70 u_43 u_45 z_90 u_74 u_75 rfl (iv_w hv_44 (by decide) (by decide)) (iv_w hv_46 (by decide) (by decide)) (iv_w iv_92 (by decide) (by decide))
          · skip
            have j_93 : u_72.toInt < p1.toInt := iv_nle h_79
            have iv_94 : IV u_72 0 19 := iv_ltL (iv_nle h_79) hv_73 iv_32 (by decide)
            refine k_aload_n X dX11_bestMan_83 5 rfl ?_
            refine k_iload X dX11_bestMan_84 2 rfl ?_
            refine k_callVV (n := 1) (As := [.int u_47]) (st := []) X [(cO11_i1r1i10r1i2r5i2r12i3r4i2 h0 m_thrown2_1 a_tape m_taped m_size m_at m_end m_token m_whole m_nameSize m_fault m_place m_trouble2_2 a_letters m_failed m_hasHouse a_r a_fresh a_st a_undone a_kept m_undos m_images a_from a_begin a_motor a_change a_startFrame a_changeFrame a_lostAt a_blackAt a_slips a_leftArc a_died a_arcs m_bestSum m_nearest m_nearestTown a_there a_backAt a_sorted a_parts u_74 u_75), (cAI g a_r 311 d_r), (cAI g a_st 44 d_st), (cAI g a_from 8 uf_66), (cAI g a_begin 8 uf_62), (cAI g a_motor 8 uf_68), (cAI g a_change 8 uf_64), (cAI g a_startFrame 8 uf_70), (cAI g a_changeFrame 8 uf_65), (cAI g a_lostAt 8 uf_67), (cAI g a_blackAt 8 uf_63), (cAI g a_slips 8 uf_69)] [] [11, 0, 1, 2, 3, 4, 5, 6, 7, 8, 9, 10] [] (m_drawNight l g h0 u_47 m_thrown2_1 a_tape m_taped m_size m_at m_end m_token m_whole m_nameSize m_fault m_place m_trouble2_2 a_letters m_failed m_hasHouse a_r a_fresh a_st a_undone a_kept m_undos m_images a_from a_begin a_motor a_change a_startFrame a_changeFrame a_lostAt a_blackAt a_slips a_leftArc a_died a_arcs m_bestSum m_nearest m_nearestTown a_there a_backAt a_sorted a_parts u_74 u_75 d_r d_st uf_66 uf_62 uf_68 uf_64 uf_70 uf_65 uf_67 uf_63 uf_69 (iv_w iv_60 (by decide) (by decide)) hp_d_r) dX11_bestMan_86 mw1423 mw1424 mw1425 mw5 mw1426 rfl 11 rfl rfl 0 _ rfl yk_yX11_drawNight_1 rfl (Nat.le_of_ble_eq_true rfl) (Nat.le_of_ble_eq_true rfl) (Nat.le_of_ble_eq_true rfl) (Nat.le_of_ble_eq_true rfl) (Nat.le_of_ble_eq_true rfl) rfl rfl (by decide +kernel) rfl (by decide +kernel) (by decide +kernel) ?_
            intro w zq
            refine exL11 zq ?_
            clear zq
            intro d_begin2_95 d_blackAt2_96 d_change2_97 d_changeFrame2_98 m_darkNow2_99 d_from2_100 d_lostAt2_101 d_motor2_102 m_seed12_103 d_slips2_104 d_startFrame2_105 zq
            subst zq
            refine k_ws [(cO11_i1r1i10r1i2r5i2r12i3r4i2 h0 m_thrown2_1 a_tape m_taped m_size m_at m_end m_token m_whole m_nameSize m_fault m_place m_trouble2_2 a_letters m_failed m_hasHouse a_r a_fresh a_st a_undone a_kept m_undos m_images a_from a_begin a_motor a_change a_startFrame a_changeFrame a_lostAt a_blackAt a_slips a_leftArc a_died a_arcs m_bestSum m_nearest m_nearestTown a_there a_backAt a_sorted a_parts m_seed12_103 m_darkNow2_99), (cAI g a_r 311 d_r), (cAI g a_st 44 d_st), (cAI g a_from 8 d_from2_100), (cAI g a_begin 8 d_begin2_95), (cAI g a_motor 8 d_motor2_102), (cAI g a_change 8 d_change2_97), (cAI g a_startFrame 8 d_startFrame2_105), (cAI g a_changeFrame 8 d_changeFrame2_98), (cAI g a_lostAt 8 d_lostAt2_101), (cAI g a_blackAt 8 d_blackAt2_96), (cAI g a_slips 8 d_slips2_104)] rfl ?_
            refine k_iload X dX11_bestMan_89 1 rfl ?_
            refine k_aload_n X dX11_bestMan_91 5 rfl ?_
            refine k_get (ci := 11) X inlX11 rfl 42 (by decide) dX11_bestMan_92 mw1422 0 rfl rfl ?_
            refine k_aload_n X dX11_bestMan_95 5 rfl ?_
            refine k_iconst (v := 0) X dX11_bestMan_96 (by decide) ?_
            refine k_callVI (n := 1) (As := [.int 0]) (st := [.int m_darkNow2_99, .int u_71]) X [(cO11_i1r1i10r1i2r5i2r12i3r4i2 h0 m_thrown2_1 a_tape m_taped m_size m_at m_end m_token m_whole m_nameSize m_fault m_place m_trouble2_2 a_letters m_failed m_hasHouse a_r a_fresh a_st a_undone a_kept m_undos m_images a_from a_begin a_motor a_change a_startFrame a_changeFrame a_lostAt a_blackAt a_slips a_leftArc a_died a_arcs m_bestSum m_nearest m_nearestTown a_there a_backAt a_sorted a_parts m_seed12_103 m_darkNow2_99), (cAI g a_r 311 d_r), (cAI g a_st 44 d_st), (cAI g a_from 8 d_from2_100), (cAI g a_changeFrame 8 d_changeFrame2_98), (cAI g a_lostAt 8 d_lostAt2_101), (cAI g a_blackAt 8 d_blackAt2_96)] [(cAI g a_begin 8 d_begin2_95), (cAI g a_motor 8 d_motor2_102), (cAI g a_change 8 d_change2_97), (cAI g a_startFrame 8 d_startFrame2_105), (cAI g a_slips 8 d_slips2_104)] [0, 1, 2, 3, 8, 9, 10] [4, 5, 6, 7, 11] (m_sumOf l g h0 0 m_thrown2_1 a_tape m_taped m_size m_at m_end m_token m_whole m_nameSize m_fault m_place m_trouble2_2 a_letters m_failed m_hasHouse a_r a_fresh a_st a_undone a_kept m_undos m_images a_from a_begin a_motor a_change a_startFrame a_changeFrame a_lostAt a_blackAt a_slips a_leftArc a_died a_arcs m_bestSum m_nearest m_nearestTown a_there a_backAt a_sorted a_parts m_seed12_103 m_darkNow2_99 d_r d_st d_from2_100 d_changeFrame2_98 d_lostAt2_101 d_blackAt2_96 hp_d_r) dX11_bestMan_97 mw921 mw922 mw923 mw5 mw924 rfl 11 rfl rfl 0 _ rfl yk_yX11_sumOf_1 rfl (Nat.le_of_ble_eq_true rfl) (Nat.le_of_ble_eq_true rfl) (Nat.le_of_ble_eq_true rfl) (Nat.le_of_ble_eq_true rfl) (Nat.le_of_ble_eq_true rfl) rfl rfl (by decide +kernel) rfl (by decide +kernel) (by decide +kernel) ?_
            rintro r_107 w rfl
            refine k_ws [(cAI g a_begin 8 d_begin2_95), (cAI g a_motor 8 d_motor2_102), (cAI g a_change 8 d_change2_97), (cAI g a_startFrame 8 d_startFrame2_105), (cAI g a_slips 8 d_slips2_104), (cO11_i1r1i10r1i2r5i2r12i3r4i2 h0 m_thrown2_1 a_tape m_taped m_size m_at m_end m_token m_whole m_nameSize m_fault m_place m_trouble2_2 a_letters m_failed m_hasHouse a_r a_fresh a_st a_undone a_kept m_undos m_images a_from a_begin a_motor a_change a_startFrame a_changeFrame a_lostAt a_blackAt a_slips a_leftArc a_died a_arcs m_bestSum m_nearest m_nearestTown a_there a_backAt a_sorted a_parts m_seed12_103 m_darkNow2_99), (cAI g a_r 311 d_r), (cAI g a_st 44 d_st), (cAI g a_from 8 d_from2_100), (cAI g a_changeFrame 8 d_changeFrame2_98), (cAI g a_lostAt 8 d_lostAt2_101), (cAI g a_blackAt 8 d_blackAt2_96)] rfl ?_
            refine k_iadd X dX11_bestMan_100 ?_
            refine k_nm (fun z_108 ez_108 => ?_)
            refine k_aload_n X dX11_bestMan_101 5 rfl ?_
            refine k_iconst (v := 1) X dX11_bestMan_102 (by decide) ?_
            refine k_callVI (n := 1) (As := [.int 1]) (st := [.int z_108, .int u_71]) X [(cO11_i1r1i10r1i2r5i2r12i3r4i2 h0 m_thrown2_1 a_tape m_taped m_size m_at m_end m_token m_whole m_nameSize m_fault m_place m_trouble2_2 a_letters m_failed m_hasHouse a_r a_fresh a_st a_undone a_kept m_undos m_images a_from a_begin a_motor a_change a_startFrame a_changeFrame a_lostAt a_blackAt a_slips a_leftArc a_died a_arcs m_bestSum m_nearest m_nearestTown a_there a_backAt a_sorted a_parts m_seed12_103 m_darkNow2_99), (cAI g a_r 311 d_r), (cAI g a_st 44 d_st), (cAI g a_from 8 d_from2_100), (cAI g a_changeFrame 8 d_changeFrame2_98), (cAI g a_lostAt 8 d_lostAt2_101), (cAI g a_blackAt 8 d_blackAt2_96)] [(cAI g a_begin 8 d_begin2_95), (cAI g a_motor 8 d_motor2_102), (cAI g a_change 8 d_change2_97), (cAI g a_startFrame 8 d_startFrame2_105), (cAI g a_slips 8 d_slips2_104)] [5, 6, 7, 8, 9, 10, 11] [0, 1, 2, 3, 4] (m_sumOf l g h0 1 m_thrown2_1 a_tape m_taped m_size m_at m_end m_token m_whole m_nameSize m_fault m_place m_trouble2_2 a_letters m_failed m_hasHouse a_r a_fresh a_st a_undone a_kept m_undos m_images a_from a_begin a_motor a_change a_startFrame a_changeFrame a_lostAt a_blackAt a_slips a_leftArc a_died a_arcs m_bestSum m_nearest m_nearestTown a_there a_backAt a_sorted a_parts m_seed12_103 m_darkNow2_99 d_r d_st d_from2_100 d_changeFrame2_98 d_lostAt2_101 d_blackAt2_96 hp_d_r) dX11_bestMan_103 mw921 mw922 mw923 mw5 mw924 rfl 11 rfl rfl 0 _ rfl yk_yX11_sumOf_1 rfl (Nat.le_of_ble_eq_true rfl) (Nat.le_of_ble_eq_true rfl) (Nat.le_of_ble_eq_true rfl) (Nat.le_of_ble_eq_true rfl) (Nat.le_of_ble_eq_true rfl) rfl rfl (by decide +kernel) rfl (by decide +kernel) (by decide +kernel) ?_
            rintro r_110 w rfl
            refine k_ws [(cAI g a_begin 8 d_begin2_95), (cAI g a_motor 8 d_motor2_102), (cAI g a_change 8 d_change2_97), (cAI g a_startFrame 8 d_startFrame2_105), (cAI g a_slips 8 d_slips2_104), (cO11_i1r1i10r1i2r5i2r12i3r4i2 h0 m_thrown2_1 a_tape m_taped m_size m_at m_end m_token m_whole m_nameSize m_fault m_place m_trouble2_2 a_letters m_failed m_hasHouse a_r a_fresh a_st a_undone a_kept m_undos m_images a_from a_begin a_motor a_change a_startFrame a_changeFrame a_lostAt a_blackAt a_slips a_leftArc a_died a_arcs m_bestSum m_nearest m_nearestTown a_there a_backAt a_sorted a_parts m_seed12_103 m_darkNow2_99), (cAI g a_r 311 d_r), (cAI g a_st 44 d_st), (cAI g a_from 8 d_from2_100), (cAI g a_changeFrame 8 d_changeFrame2_98), (cAI g a_lostAt 8 d_lostAt2_101), (cAI g a_blackAt 8 d_blackAt2_96)] rfl ?_
            refine k_iadd X dX11_bestMan_106 ?_
            refine k_nm (fun z_111 ez_111 => ?_)
            refine k_aload_n X dX11_bestMan_107 5 rfl ?_
            refine k_iconst (v := 2) X dX11_bestMan_108 (by decide) ?_
            refine k_callVI (n := 1) (As := [.int 2]) (st := [.int z_111, .int u_71]) X [(cO11_i1r1i10r1i2r5i2r12i3r4i2 h0 m_thrown2_1 a_tape m_taped m_size m_at m_end m_token m_whole m_nameSize m_fault m_place m_trouble2_2 a_letters m_failed m_hasHouse a_r a_fresh a_st a_undone a_kept m_undos m_images a_from a_begin a_motor a_change a_startFrame a_changeFrame a_lostAt a_blackAt a_slips a_leftArc a_died a_arcs m_bestSum m_nearest m_nearestTown a_there a_backAt a_sorted a_parts m_seed12_103 m_darkNow2_99), (cAI g a_r 311 d_r), (cAI g a_st 44 d_st), (cAI g a_from 8 d_from2_100), (cAI g a_changeFrame 8 d_changeFrame2_98), (cAI g a_lostAt 8 d_lostAt2_101), (cAI g a_blackAt 8 d_blackAt2_96)] [(cAI g a_begin 8 d_begin2_95), (cAI g a_motor 8 d_motor2_102), (cAI g a_change 8 d_change2_97), (cAI g a_startFrame 8 d_startFrame2_105), (cAI g a_slips 8 d_slips2_104)] [5, 6, 7, 8, 9, 10, 11] [0, 1, 2, 3, 4] (m_sumOf l g h0 2 m_thrown2_1 a_tape m_taped m_size m_at m_end m_token m_whole m_nameSize m_fault m_place m_trouble2_2 a_letters m_failed m_hasHouse a_r a_fresh a_st a_undone a_kept m_undos m_images a_from a_begin a_motor a_change a_startFrame a_changeFrame a_lostAt a_blackAt a_slips a_leftArc a_died a_arcs m_bestSum m_nearest m_nearestTown a_there a_backAt a_sorted a_parts m_seed12_103 m_darkNow2_99 d_r d_st d_from2_100 d_changeFrame2_98 d_lostAt2_101 d_blackAt2_96 hp_d_r) dX11_bestMan_109 mw921 mw922 mw923 mw5 mw924 rfl 11 rfl rfl 0 _ rfl yk_yX11_sumOf_1 rfl (Nat.le_of_ble_eq_true rfl) (Nat.le_of_ble_eq_true rfl) (Nat.le_of_ble_eq_true rfl) (Nat.le_of_ble_eq_true rfl) (Nat.le_of_ble_eq_true rfl) rfl rfl (by decide +kernel) rfl (by decide +kernel) (by decide +kernel) ?_
            rintro r_113 w rfl
            refine k_ws [(cAI g a_begin 8 d_begin2_95), (cAI g a_motor 8 d_motor2_102), (cAI g a_change 8 d_change2_97), (cAI g a_startFrame 8 d_startFrame2_105), (cAI g a_slips 8 d_slips2_104), (cO11_i1r1i10r1i2r5i2r12i3r4i2 h0 m_thrown2_1 a_tape m_taped m_size m_at m_end m_token m_whole m_nameSize m_fault m_place m_trouble2_2 a_letters m_failed m_hasHouse a_r a_fresh a_st a_undone a_kept m_undos m_images a_from a_begin a_motor a_change a_startFrame a_changeFrame a_lostAt a_blackAt a_slips a_leftArc a_died a_arcs m_bestSum m_nearest m_nearestTown a_there a_backAt a_sorted a_parts m_seed12_103 m_darkNow2_99), (cAI g a_r 311 d_r), (cAI g a_st 44 d_st), (cAI g a_from 8 d_from2_100), (cAI g a_changeFrame 8 d_changeFrame2_98), (cAI g a_lostAt 8 d_lostAt2_101), (cAI g a_blackAt 8 d_blackAt2_96)] rfl ?_
            refine k_iadd X dX11_bestMan_112 ?_
            refine k_nm (fun z_114 ez_114 => ?_)
            refine k_iadd X dX11_bestMan_113 ?_
            refine k_nm (fun z_116 ez_116 => ?_)
            refine k_istore [(6, .int z_116), (7, .int u_72), (5, .int u_47), (4, .int u_45), (3, .int u_43), (0, .ref h0), (1, .int p0), (2, .int p1)] X dX11_bestMan_114 (by decide) rfl ?_
            obtain ⟨z_118, ez_118⟩ : ∃ y : Int32, u_72 + Int32.ofInt 1 = y := ⟨_, rfl⟩
            refine k_iinc z_118 [(7, .int z_118), (6, .int z_116), (5, .int u_47), (4, .int u_45), (3, .int u_43), (0, .ref h0), (1, .int p0), (2, .int p1)] 1 X dX11_bestMan_116 rfl ez_118 (by decide) rfl ?_
            have i_119 : z_118.toInt = u_72.toInt + 1 := in_inc ez_118 (by decide) iv_94 (by decide) (by decide)
            have iv_120 : IV z_118 1 20 := iz1 i_119 iv_94 (by decide) (by decide)
            refine k_goto 77 X dX11_bestMan_119 (by decide) ?_
            refine k_sub [(cAI g a_r 311 d_r), (cAI g a_st 44 d_st), (cAI g a_from 8 d_from2_100), (cAI g a_begin 8 d_begin2_95), (cAI g a_motor 8 d_motor2_102), (cAI g a_change 8 d_change2_97), (cAI g a_startFrame 8 d_startFrame2_105), (cAI g a_changeFrame 8 d_changeFrame2_98), (cAI g a_lostAt 8 d_lostAt2_101), (cAI g a_blackAt 8 d_blackAt2_96), (cAI g a_slips 8 d_slips2_104), (cO11_i1r1i10r1i2r5i2r12i3r4i2 h0 m_thrown2_1 a_tape m_taped m_size m_at m_end m_token m_whole m_nameSize m_fault m_place m_trouble2_2 a_letters m_failed m_hasHouse a_r a_fresh a_st a_undone a_kept m_undos m_images a_from a_begin a_motor a_change a_startFrame a_changeFrame a_lostAt a_blackAt a_slips a_leftArc a_died a_arcs m_bestSum m_nearest m_nearestTown a_there a_backAt a_sorted a_parts m_seed12_103 m_darkNow2_99)] [6, 7, 8, 0, 1, 2, 3, 9, 10, 11, 4, 5] rfl (by decide) rfl ?_
            exact ih_78 _ (by omega) d_begin2_95 d_blackAt2_96 d_change2_97 d_changeFrame2_98 d_from2_100 d_lostAt2_101 d_motor2_102 d_slips2_104 d_startFrame2_105 z_116 z_118 m_seed12_103 m_darkNow2_99 rfl (iv_w iv_120 (by decide) (by decide))
      · skip
        have iv_121 : IV r_23 0 0 := iv_meet iv_24 (iv_e h_27 (show IV 0 0 0 from (by decide))) (by decide) (by decide)
        have hc_122 := hk_26 (iv_eq iv_121 (show IV 0 0 0 from (by decide)))
        have j_123 : p1.toInt < 1 ∨ 20 < p1.toInt := hc_122
        refine k_aload_n X dX11_bestMan_38 0 rfl ?_
        refine k_iconst (v := 2) X dX11_bestMan_39 (by decide) ?_
        refine k_callVI (n := 1) (As := [.int 2]) (st := []) X [(cO11_i1r1i10r1i2r5i2r12i3r4i2 h0 m_thrown2_1 a_tape m_taped m_size m_at m_end m_token m_whole m_nameSize m_fault m_place m_trouble2_2 a_letters m_failed m_hasHouse a_r a_fresh a_st a_undone a_kept m_undos m_images a_from a_begin a_motor a_change a_startFrame a_changeFrame a_lostAt a_blackAt a_slips a_leftArc a_died a_arcs m_bestSum m_nearest m_nearestTown a_there a_backAt a_sorted a_parts m_seed1 m_darkNow)] [(cAI g a_r 311 d_r), (cAI g a_st 44 d_st), (cAI g a_from 8 d_from), (cAI g a_begin 8 d_begin), (cAI g a_motor 8 d_motor), (cAI g a_change 8 d_change), (cAI g a_startFrame 8 d_startFrame), (cAI g a_changeFrame 8 d_changeFrame), (cAI g a_lostAt 8 d_lostAt), (cAI g a_blackAt 8 d_blackAt), (cAI g a_slips 8 d_slips)] [11] [0, 1, 2, 3, 4, 5, 6, 7, 8, 9, 10] (m_no l g h0 2 m_thrown2_1 a_tape m_taped m_size m_at m_end m_token m_whole m_nameSize m_fault m_place m_trouble2_2 a_letters m_failed m_hasHouse a_r a_fresh a_st a_undone a_kept m_undos m_images a_from a_begin a_motor a_change a_startFrame a_changeFrame a_lostAt a_blackAt a_slips a_leftArc a_died a_arcs m_bestSum m_nearest m_nearestTown a_there a_backAt a_sorted a_parts m_seed1 m_darkNow) dX11_bestMan_40 mw485 mw486 mw487 mw5 mw488 rfl 11 rfl rfl 0 _ rfl yk_yX11_no_1 rfl (Nat.le_of_ble_eq_true rfl) (Nat.le_of_ble_eq_true rfl) (Nat.le_of_ble_eq_true rfl) (Nat.le_of_ble_eq_true rfl) (Nat.le_of_ble_eq_true rfl) rfl rfl (by decide +kernel) rfl (by decide +kernel) (by decide +kernel) ?_
        rintro r_125 w ⟨m_trouble2_124, iv_126, rfl⟩
        refine k_ws [(cAI g a_r 311 d_r), (cAI g a_st 44 d_st), (cAI g a_from 8 d_from), (cAI g a_begin 8 d_begin), (cAI g a_motor 8 d_motor), (cAI g a_change 8 d_change), (cAI g a_startFrame 8 d_startFrame), (cAI g a_changeFrame 8 d_changeFrame), (cAI g a_lostAt 8 d_lostAt), (cAI g a_blackAt 8 d_blackAt), (cAI g a_slips 8 d_slips), (cO11_i1r1i10r1i2r5i2r12i3r4i2 h0 m_thrown2_1 a_tape m_taped m_size m_at m_end m_token m_whole m_nameSize m_fault m_place m_trouble2_124 a_letters m_failed m_hasHouse a_r a_fresh a_st a_undone a_kept m_undos m_images a_from a_begin a_motor a_change a_startFrame a_changeFrame a_lostAt a_blackAt a_slips a_leftArc a_died a_arcs m_bestSum m_nearest m_nearestTown a_there a_backAt a_sorted a_parts m_seed1 m_darkNow)] rfl ?_
        exact k_iret X hr dX11_bestMan_43 (Nat.le_of_ble_eq_true rfl) (Nat.le_of_ble_eq_true rfl) [11, 0, 1, 2, 3, 4, 5, 6, 7, 8, 9, 10] (by decide) rfl rfl ⟨d_begin, d_blackAt, d_change, d_changeFrame, m_darkNow, d_from, d_lostAt, d_motor, m_seed1, d_slips, d_startFrame, m_thrown2_1, m_trouble2_124, rfl⟩
  · skip
    have iv_127 : IV m_hasHouse 0 0 := iv_meet hv_m_hasHouse (iv_e h_4 (show IV 0 0 0 from (by decide))) (by decide) (by decide)
    refine k_aload_n X dX11_bestMan_11 0 rfl ?_
    refine k_iconst (v := 1) X dX11_bestMan_12 (by decide) ?_
    refine k_callVI (n := 1) (As := [.int 1]) (st := []) X [(cO11_i1r1i10r1i2r5i2r12i3r4i2 h0 m_thrown2_1 a_tape m_taped m_size m_at m_end m_token m_whole m_nameSize m_fault m_place m_trouble2_2 a_letters m_failed m_hasHouse a_r a_fresh a_st a_undone a_kept m_undos m_images a_from a_begin a_motor a_change a_startFrame a_changeFrame a_lostAt a_blackAt a_slips a_leftArc a_died a_arcs m_bestSum m_nearest m_nearestTown a_there a_backAt a_sorted a_parts m_seed1 m_darkNow)] [(cAI g a_r 311 d_r), (cAI g a_st 44 d_st), (cAI g a_from 8 d_from), (cAI g a_begin 8 d_begin), (cAI g a_motor 8 d_motor), (cAI g a_change 8 d_change), (cAI g a_startFrame 8 d_startFrame), (cAI g a_changeFrame 8 d_changeFrame), (cAI g a_lostAt 8 d_lostAt), (cAI g a_blackAt 8 d_blackAt), (cAI g a_slips 8 d_slips)] [11] [0, 1, 2, 3, 4, 5, 6, 7, 8, 9, 10] (m_no l g h0 1 m_thrown2_1 a_tape m_taped m_size m_at m_end m_token m_whole m_nameSize m_fault m_place m_trouble2_2 a_letters m_failed m_hasHouse a_r a_fresh a_st a_undone a_kept m_undos m_images a_from a_begin a_motor a_change a_startFrame a_changeFrame a_lostAt a_blackAt a_slips a_leftArc a_died a_arcs m_bestSum m_nearest m_nearestTown a_there a_backAt a_sorted a_parts m_seed1 m_darkNow) dX11_bestMan_13 mw485 mw486 mw487 mw5 mw488 rfl 11 rfl rfl 0 _ rfl yk_yX11_no_1 rfl (Nat.le_of_ble_eq_true rfl) (Nat.le_of_ble_eq_true rfl) (Nat.le_of_ble_eq_true rfl) (Nat.le_of_ble_eq_true rfl) (Nat.le_of_ble_eq_true rfl) rfl rfl (by decide +kernel) rfl (by decide +kernel) (by decide +kernel) ?_
    rintro r_129 w ⟨m_trouble2_128, iv_130, rfl⟩
    refine k_ws [(cAI g a_r 311 d_r), (cAI g a_st 44 d_st), (cAI g a_from 8 d_from), (cAI g a_begin 8 d_begin), (cAI g a_motor 8 d_motor), (cAI g a_change 8 d_change), (cAI g a_startFrame 8 d_startFrame), (cAI g a_changeFrame 8 d_changeFrame), (cAI g a_lostAt 8 d_lostAt), (cAI g a_blackAt 8 d_blackAt), (cAI g a_slips 8 d_slips), (cO11_i1r1i10r1i2r5i2r12i3r4i2 h0 m_thrown2_1 a_tape m_taped m_size m_at m_end m_token m_whole m_nameSize m_fault m_place m_trouble2_128 a_letters m_failed m_hasHouse a_r a_fresh a_st a_undone a_kept m_undos m_images a_from a_begin a_motor a_change a_startFrame a_changeFrame a_lostAt a_blackAt a_slips a_leftArc a_died a_arcs m_bestSum m_nearest m_nearestTown a_there a_backAt a_sorted a_parts m_seed1 m_darkNow)] rfl ?_
    exact k_iret X hr dX11_bestMan_16 (Nat.le_of_ble_eq_true rfl) (Nat.le_of_ble_eq_true rfl) [11, 0, 1, 2, 3, 4, 5, 6, 7, 8, 9, 10] (by decide) rfl rfl ⟨d_begin, d_blackAt, d_change, d_changeFrame, m_darkNow, d_from, d_lostAt, d_motor, m_seed1, d_slips, d_startFrame, m_thrown2_1, m_trouble2_128, rfl⟩
