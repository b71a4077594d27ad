
set_option maxHeartbeats 4000000 in
set_option maxRecDepth 100000 in
theorem m_mostE (l : Launch) (g : Gx) (p0 : Int32) (p1 : Int32) : cI l g yX11_most cX11_most 2 (some .int) 0 0 0 0 [.int p0, .int p1] [] (fun r w => (r = mostF p0 p1) ∧ w = []) := by
  refine cI.of (by decide) (Nat.le_of_ble_eq_true rfl) ?_
  intro p e s m args below meth c A X hr hi
  refine k_lveq [(0, .int p0), (1, .int p1)] rfl ?_
  refine k_iload_n X dX11_most_0 0 rfl ?_
  refine k_iload_n X dX11_most_1 1 rfl ?_
  refine k_ic_le 9 X dX11_most_2 (by decide) (fun h_1 => ?_) (fun h_1 => ?_)
  · skip
    have j_2 : p0.toInt ≤ p1.toInt := iv_le h_1
    refine k_iload_n X dX11_most_9 1 rfl ?_
    exact k_iret X hr dX11_most_10 (Nat.le_of_ble_eq_true rfl) (Nat.le_of_ble_eq_true rfl) [] (by decide) rfl rfl ⟨(by unfold mostF; first | rw [if_neg (Int32.not_lt.mpr (by assumption))] | rw [if_pos (Int32.not_le.mp (by assumption))]), rfl⟩
  · skip
    have j_3 : p1.toInt < p0.toInt := iv_nle h_1
    have iv_4 : IV p1 (-2147483648) 2147483646 := iv_ltL (iv_nle h_1) (iv_any p1) (iv_any p0) (by decide)
    have iv_5 : IV p0 (-2147483647) 2147483647 := iv_ltR (iv_nle h_1) (iv_any p1) (iv_any p0) (by decide)
    refine k_iload_n X dX11_most_5 0 rfl ?_
    refine k_goto 10 X dX11_most_6 (by decide) ?_
    exact k_iret X hr dX11_most_10 (Nat.le_of_ble_eq_true rfl) (Nat.le_of_ble_eq_true rfl) [] (by decide) rfl rfl ⟨(by unfold mostF; first | rw [if_neg (Int32.not_lt.mpr (by assumption))] | rw [if_pos (Int32.not_le.mp (by assumption))]), rfl⟩


set_option maxHeartbeats 4000000 in
set_option maxRecDepth 100000 in
theorem m_leastE (l : Launch) (g : Gx) (p0 : Int32) (p1 : Int32) : cI l g yX11_least cX11_least 2 (some .int) 0 0 0 0 [.int p0, .int p1] [] (fun r w => (r = leastF p0 p1) ∧ w = []) := by
  refine cI.of (by decide) (Nat.le_of_ble_eq_true rfl) ?_
  intro p e s m args below meth c A X hr hi
  refine k_lveq [(0, .int p0), (1, .int p1)] rfl ?_
  refine k_iload_n X dX11_least_0 0 rfl ?_
  refine k_iload_n X dX11_least_1 1 rfl ?_
  refine k_ic_ge 9 X dX11_least_2 (by decide) (fun h_1 => ?_) (fun h_1 => ?_)
  · skip
    have j_2 : p1.toInt ≤ p0.toInt := iv_le h_1
    refine k_iload_n X dX11_least_9 1 rfl ?_
    exact k_iret X hr dX11_least_10 (Nat.le_of_ble_eq_true rfl) (Nat.le_of_ble_eq_true rfl) [] (by decide) rfl rfl ⟨(by unfold leastF; first | rw [if_neg (Int32.not_lt.mpr (by assumption))] | rw [if_pos (Int32.not_le.mp (by assumption))]), rfl⟩
  · skip
    have j_3 : p0.toInt < p1.toInt := iv_nle h_1
    have iv_4 : IV p0 (-2147483648) 2147483646 := iv_ltL (iv_nle h_1) (iv_any p0) (iv_any p1) (by decide)
    have iv_5 : IV p1 (-2147483647) 2147483647 := iv_ltR (iv_nle h_1) (iv_any p0) (iv_any p1) (by decide)
    refine k_iload_n X dX11_least_5 0 rfl ?_
    refine k_goto 10 X dX11_least_6 (by decide) ?_
    exact k_iret X hr dX11_least_10 (Nat.le_of_ble_eq_true rfl) (Nat.le_of_ble_eq_true rfl) [] (by decide) rfl rfl ⟨(by unfold leastF; first | rw [if_neg (Int32.not_lt.mpr (by assumption))] | rw [if_pos (Int32.not_le.mp (by assumption))]), rfl⟩


set_option maxHeartbeats 4000000 in
set_option maxRecDepth 100000 in
theorem m_reelAtE (l : Launch) (g : Gx) (h0 : Nat) (p0 : Int32) (m_thrown : Int32) (a_tape : Nat) (m_taped : Int32) (m_size : Int32) (m_at : Int32) (m_end : Int32) (m_token : Int32) (m_whole : Int32) (m_nameSize : Int32) (m_fault : Int32) (m_place : Int32) (m_trouble : Int32) (a_letters : Nat) (m_failed : Int32) (m_hasHouse : Int32) (a_r : Nat) (a_fresh : Nat) (a_st : Nat) (a_undone : Nat) (a_kept : Nat) (m_undos : Int32) (m_images : Int32) (a_from : Nat) (a_begin : Nat) (a_motor : Nat) (a_change : Nat) (a_startFrame : Nat) (a_changeFrame : Nat) (a_lostAt : Nat) (a_blackAt : Nat) (a_slips : Nat) (a_leftArc : Nat) (a_died : Nat) (a_arcs : Nat) (m_bestSum : Int32) (m_nearest : Int32) (m_nearestTown : Int32) (a_there : Nat) (a_backAt : Nat) (a_sorted : Nat) (a_parts : Nat) (m_seed1 : Int32) (m_darkNow : Int32) (d_r : Nat → Int32) (hv_p0 : IV p0 0 7) (hp_d_r : RInv d_r) : cI l g yX11_reelAt cX11_reelAt 2 (some .int) 0 0 0 0 [.ref h0, .int p0] [(cO11_i1r1i10r1i2r5i2r12i3r4i2 h0 m_thrown a_tape m_taped m_size m_at m_end m_token m_whole m_nameSize m_fault m_place m_trouble a_letters m_failed m_hasHouse a_r a_fresh a_st a_undone a_kept m_undos m_images a_from a_begin a_motor a_change a_startFrame a_changeFrame a_lostAt a_blackAt a_slips a_leftArc a_died a_arcs m_bestSum m_nearest m_nearestTown a_there a_backAt a_sorted a_parts m_seed1 m_darkNow), (cAI g a_r 311 d_r)] (fun r w => IV r 0 7 ∧ (r = rlF d_r p0) ∧ w = [(cO11_i1r1i10r1i2r5i2r12i3r4i2 h0 m_thrown a_tape m_taped m_size m_at m_end m_token m_whole m_nameSize m_fault m_place m_trouble a_letters m_failed m_hasHouse a_r a_fresh a_st a_undone a_kept m_undos m_images a_from a_begin a_motor a_change a_startFrame a_changeFrame a_lostAt a_blackAt a_slips a_leftArc a_died a_arcs m_bestSum m_nearest m_nearestTown a_there a_backAt a_sorted a_parts m_seed1 m_darkNow), (cAI g a_r 311 d_r)]) := by
  refine cI.of (by decide) (Nat.le_of_ble_eq_true rfl) ?_
  intro p e s m args below meth c A X hr hi
  refine k_lveq [(0, .ref h0), (1, .int p0)] rfl ?_
  refine k_aload_n X dX11_reelAt_0 0 rfl ?_
  refine k_get (ci := 11) X inlX11 rfl 15 (by decide) dX11_reelAt_1 mw170 0 rfl rfl ?_
  refine k_bipush (v := 126) X dX11_reelAt_4 (by decide) ?_
  refine k_iload_n X dX11_reelAt_6 1 rfl ?_
  refine k_iadd X dX11_reelAt_7 ?_
  refine k_nm (fun z_1 ez_1 => ?_)
  have i_2 : z_1.toInt = 126 + p0.toInt := in_add ez_1 (show IV 126 126 126 from (by decide)) hv_p0 (by decide) (by decide)
  have iv_3 : IV z_1 126 133 := iz2 i_2 hv_p0 (by decide) (by decide)
  refine k_iald X dX11_reelAt_8 1 rfl (iv_in iv_3 (by decide) (by decide)) ?_
  refine k_nm (fun z_4 ez_4 => ?_)
  have i_5 : z_1.toInt = 126 + 1 * p0.toInt := by omega
  have iv_6 : IV z_4 0 7 := rb_126_1 ez_4 hp_d_r i_5 (iv_w hv_p0 (by decide) (by decide))
  exact k_iret X hr dX11_reelAt_9 (Nat.le_of_ble_eq_true rfl) (Nat.le_of_ble_eq_true rfl) [0, 1] (by decide) rfl rfl ⟨(iv_w iv_6 (by decide) (by decide)), (by subst_vars; first | rfl | assumption | exact Eq.symm (by assumption)), rfl⟩


set_option maxHeartbeats 4000000 in
set_option maxRecDepth 100000 in
theorem m_framesAtE (l : Launch) (g : Gx) (h0 : Nat) (p0 : Int32) (m_thrown : Int32) (a_tape : Nat) (m_taped : Int32) (m_size : Int32) (m_at : Int32) (m_end : Int32) (m_token : Int32) (m_whole : Int32) (m_nameSize : Int32) (m_fault : Int32) (m_place : Int32) (m_trouble : Int32) (a_letters : Nat) (m_failed : Int32) (m_hasHouse : Int32) (a_r : Nat) (a_fresh : Nat) (a_st : Nat) (a_undone : Nat) (a_kept : Nat) (m_undos : Int32) (m_images : Int32) (a_from : Nat) (a_begin : Nat) (a_motor : Nat) (a_change : Nat) (a_startFrame : Nat) (a_changeFrame : Nat) (a_lostAt : Nat) (a_blackAt : Nat) (a_slips : Nat) (a_leftArc : Nat) (a_died : Nat) (a_arcs : Nat) (m_bestSum : Int32) (m_nearest : Int32) (m_nearestTown : Int32) (a_there : Nat) (a_backAt : Nat) (a_sorted : Nat) (a_parts : Nat) (m_seed1 : Int32) (m_darkNow : Int32) (d_r : Nat → Int32) (d_st : Nat → Int32) (hv_p0 : IV p0 0 7) (hp_d_r : RInv d_r) : cI l g yX11_framesAt cX11_framesAt 2 (some .int) 1 21 0 0 [.ref h0, .int p0] [(cO11_i1r1i10r1i2r5i2r12i3r4i2 h0 m_thrown a_tape m_taped m_size m_at m_end m_token m_whole m_nameSize m_fault m_place m_trouble a_letters m_failed m_hasHouse a_r a_fresh a_st a_undone a_kept m_undos m_images a_from a_begin a_motor a_change a_startFrame a_changeFrame a_lostAt a_blackAt a_slips a_leftArc a_died a_arcs m_bestSum m_nearest m_nearestTown a_there a_backAt a_sorted a_parts m_seed1 m_darkNow), (cAI g a_r 311 d_r), (cAI g a_st 44 d_st)] (fun r w => (r = fmF d_r d_st p0) ∧ w = [(cO11_i1r1i10r1i2r5i2r12i3r4i2 h0 m_thrown a_tape m_taped m_size m_at m_end m_token m_whole m_nameSize m_fault m_place m_trouble a_letters m_failed m_hasHouse a_r a_fresh a_st a_undone a_kept m_undos m_images a_from a_begin a_motor a_change a_startFrame a_changeFrame a_lostAt a_blackAt a_slips a_leftArc a_died a_arcs m_bestSum m_nearest m_nearestTown a_there a_backAt a_sorted a_parts m_seed1 m_darkNow), (cAI g a_r 311 d_r), (cAI g a_st 44 d_st)]) := by
  refine cI.of (by decide) (Nat.le_of_ble_eq_true rfl) ?_
  intro p e s m args below meth c A X hr hi
  refine k_lveq [(0, .ref h0), (1, .int p0)] rfl ?_
  refine k_aload_n X dX11_framesAt_0 0 rfl ?_
  refine k_get (ci := 11) X inlX11 rfl 17 (by decide) dX11_framesAt_1 mw172 0 rfl rfl ?_
  refine k_iconst (v := 0) X dX11_framesAt_4 (by decide) ?_
  refine k_aload_n X dX11_framesAt_5 0 rfl ?_
  refine k_iload_n X dX11_framesAt_6 1 rfl ?_
  refine k_callVI (n := 1) (As := [.int p0]) (st := [.int 0, .ref a_st]) X [(cO11_i1r1i10r1i2r5i2r12i3r4i2 h0 m_thrown a_tape m_taped m_size m_at m_end m_token m_whole m_nameSize m_fault m_place m_trouble a_letters m_failed m_hasHouse a_r a_fresh a_st a_undone a_kept m_undos m_images a_from a_begin a_motor a_change a_startFrame a_changeFrame a_lostAt a_blackAt a_slips a_leftArc a_died a_arcs m_bestSum m_nearest m_nearestTown a_there a_backAt a_sorted a_parts m_seed1 m_darkNow), (cAI g a_r 311 d_r)] [(cAI g a_st 44 d_st)] [0, 1] [2] (m_reelAtE l g h0 p0 m_thrown a_tape m_taped m_size m_at m_end m_token m_whole m_nameSize m_fault m_place m_trouble a_letters m_failed m_hasHouse a_r a_fresh a_st a_undone a_kept m_undos m_images a_from a_begin a_motor a_change a_startFrame a_changeFrame a_lostAt a_blackAt a_slips a_leftArc a_died a_arcs m_bestSum m_nearest m_nearestTown a_there a_backAt a_sorted a_parts m_seed1 m_darkNow d_r (iv_w hv_p0 (by decide) (by decide)) hp_d_r) dX11_framesAt_7 mw723 mw724 mw725 mw5 mw726 rfl 11 rfl rfl 0 _ rfl yk_yX11_reelAt_1 rfl (Nat.le_of_ble_eq_true rfl) (Nat.le_of_ble_eq_true rfl) (Nat.le_of_ble_eq_true rfl) (Nat.le_of_ble_eq_true rfl) (Nat.le_of_ble_eq_true rfl) rfl rfl (by decide) rfl (by decide) (by decide) ?_
  rintro r_1 w ⟨iv_2, hq_3, rfl⟩
  refine k_ws [(cAI g a_st 44 d_st), (cO11_i1r1i10r1i2r5i2r12i3r4i2 h0 m_thrown a_tape m_taped m_size m_at m_end m_token m_whole m_nameSize m_fault m_place m_trouble a_letters m_failed m_hasHouse a_r a_fresh a_st a_undone a_kept m_undos m_images a_from a_begin a_motor a_change a_startFrame a_changeFrame a_lostAt a_blackAt a_slips a_leftArc a_died a_arcs m_bestSum m_nearest m_nearestTown a_there a_backAt a_sorted a_parts m_seed1 m_darkNow), (cAI g a_r 311 d_r)] rfl ?_
  refine k_iadd X dX11_framesAt_10 ?_
  refine k_nm (fun z_4 ez_4 => ?_)
  have i_5 : z_4.toInt = 0 + r_1.toInt := in_add ez_4 (show IV 0 0 0 from (by decide)) iv_2 (by decide) (by decide)
  have iv_6 : IV z_4 0 7 := by have := (show IV 0 0 0 from (by decide)); have := iv_2; rw [IV, i_5]; omega
  refine k_iald X dX11_framesAt_11 0 rfl (iv_in iv_6 (by decide) (by decide)) ?_
  refine k_nm (fun z_7 ez_7 => ?_)
  exact k_iret X hr dX11_framesAt_12 (Nat.le_of_ble_eq_true rfl) (Nat.le_of_ble_eq_true rfl) [1, 2, 0] (by decide) rfl rfl ⟨(by subst_vars; first | rfl | assumption | exact Eq.symm (by assumption)), rfl⟩


set_option maxHeartbeats 4000000 in
set_option maxRecDepth 100000 in
theorem m_isGoneE (l : Launch) (g : Gx) (h0 : Nat) (p0 : Int32) (m_thrown : Int32) (a_tape : Nat) (m_taped : Int32) (m_size : Int32) (m_at : Int32) (m_end : Int32) (m_token : Int32) (m_whole : Int32) (m_nameSize : Int32) (m_fault : Int32) (m_place : Int32) (m_trouble : Int32) (a_letters : Nat) (m_failed : Int32) (m_hasHouse : Int32) (a_r : Nat) (a_fresh : Nat) (a_st : Nat) (a_undone : Nat) (a_kept : Nat) (m_undos : Int32) (m_images : Int32) (a_from : Nat) (a_begin : Nat) (a_motor : Nat) (a_change : Nat) (a_startFrame : Nat) (a_changeFrame : Nat) (a_lostAt : Nat) (a_blackAt : Nat) (a_slips : Nat) (a_leftArc : Nat) (a_died : Nat) (a_arcs : Nat) (m_bestSum : Int32) (m_nearest : Int32) (m_nearestTown : Int32) (a_there : Nat) (a_backAt : Nat) (a_sorted : Nat) (a_parts : Nat) (m_seed1 : Int32) (m_darkNow : Int32) (d_r : Nat → Int32) (d_st : Nat → Int32) (d_from : Nat → Int32) (hv_p0 : IV p0 0 7) (hp_d_r : RInv d_r) : cI l g yX11_isGone cX11_isGone 2 (some .boolean) 2 42 0 0 [.ref h0, .int p0] [(cO11_i1r1i10r1i2r5i2r12i3r4i2 h0 m_thrown a_tape m_taped m_size m_at m_end m_token m_whole m_nameSize m_fault m_place m_trouble a_letters m_failed m_hasHouse a_r a_fresh a_st a_undone a_kept m_undos m_images a_from a_begin a_motor a_change a_startFrame a_changeFrame a_lostAt a_blackAt a_slips a_leftArc a_died a_arcs m_bestSum m_nearest m_nearestTown a_there a_backAt a_sorted a_parts m_seed1 m_darkNow), (cAI g a_r 311 d_r), (cAI g a_st 44 d_st), (cAI g a_from 8 d_from)] (fun r w => IV r 0 1 ∧ (r = gnF (d_from p0.toNatClampNeg) (fmF d_r d_st p0)) ∧ w = [(cO11_i1r1i10r1i2r5i2r12i3r4i2 h0 m_thrown a_tape m_taped m_size m_at m_end m_token m_whole m_nameSize m_fault m_place m_trouble a_letters m_failed m_hasHouse a_r a_fresh a_st a_undone a_kept m_undos m_images a_from a_begin a_motor a_change a_startFrame a_changeFrame a_lostAt a_blackAt a_slips a_leftArc a_died a_arcs m_bestSum m_nearest m_nearestTown a_there a_backAt a_sorted a_parts m_seed1 m_darkNow), (cAI g a_r 311 d_r), (cAI g a_st 44 d_st), (cAI g a_from 8 d_from)]) := by
  refine cI.of (by decide) (Nat.le_of_ble_eq_true rfl) ?_
  intro p e s m args below meth c A X hr hi
  refine k_lveq [(0, .ref h0), (1, .int p0)] rfl ?_
  refine k_aload_n X dX11_isGone_0 0 rfl ?_
  refine k_get (ci := 11) X inlX11 rfl 22 (by decide) dX11_isGone_1 mw175 0 rfl rfl ?_
  refine k_iload_n X dX11_isGone_4 1 rfl ?_
  refine k_iald X dX11_isGone_5 3 rfl (iv_in hv_p0 (by decide) (by decide)) ?_
  refine k_nm (fun z_1 ez_1 => ?_)
  refine k_aload_n X dX11_isGone_6 0 rfl ?_
  refine k_iload_n X dX11_isGone_7 1 rfl ?_
  refine k_callVI (n := 1) (As := [.int p0]) (st := [.int z_1]) X [(cO11_i1r1i10r1i2r5i2r12i3r4i2 h0 m_thrown a_tape m_taped m_size m_at m_end m_token m_whole m_nameSize m_fault m_place m_trouble a_letters m_failed m_hasHouse a_r a_fresh a_st a_undone a_kept m_undos m_images a_from a_begin a_motor a_change a_startFrame a_changeFrame a_lostAt a_blackAt a_slips a_leftArc a_died a_arcs m_bestSum m_nearest m_nearestTown a_there a_backAt a_sorted a_parts m_seed1 m_darkNow), (cAI g a_r 311 d_r), (cAI g a_st 44 d_st)] [(cAI g a_from 8 d_from)] [0, 1, 2] [3] (m_framesAtE l g h0 p0 m_thrown a_tape m_taped m_size m_at m_end m_token m_whole m_nameSize m_fault m_place m_trouble a_letters m_failed m_hasHouse a_r a_fresh a_st a_undone a_kept m_undos m_images a_from a_begin a_motor a_change a_startFrame a_changeFrame a_lostAt a_blackAt a_slips a_leftArc a_died a_arcs m_bestSum m_nearest m_nearestTown a_there a_backAt a_sorted a_parts m_seed1 m_darkNow d_r d_st (iv_w hv_p0 (by decide) (by decide)) hp_d_r) dX11_isGone_8 mw823 mw824 mw825 mw5 mw826 rfl 11 rfl rfl 0 _ rfl yk_yX11_framesAt_1 rfl (Nat.le_of_ble_eq_true rfl) (Nat.le_of_ble_eq_true rfl) (Nat.le_of_ble_eq_true rfl) (Nat.le_of_ble_eq_true rfl) (Nat.le_of_ble_eq_true rfl) rfl rfl (by decide) rfl (by decide) (by decide) ?_
  rintro r_2 w ⟨hq_3, rfl⟩
  refine k_ws [(cAI g a_from 8 d_from), (cO11_i1r1i10r1i2r5i2r12i3r4i2 h0 m_thrown a_tape m_taped m_size m_at m_end m_token m_whole m_nameSize m_fault m_place m_trouble a_letters m_failed m_hasHouse a_r a_fresh a_st a_undone a_kept m_undos m_images a_from a_begin a_motor a_change a_startFrame a_changeFrame a_lostAt a_blackAt a_slips a_leftArc a_died a_arcs m_bestSum m_nearest m_nearestTown a_there a_backAt a_sorted a_parts m_seed1 m_darkNow), (cAI g a_r 311 d_r), (cAI g a_st 44 d_st)] rfl ?_
  refine k_ic_lt 18 X dX11_isGone_11 (by decide) (fun h_4 => ?_) (fun h_4 => ?_)
  · skip
    have j_5 : z_1.toInt < r_2.toInt := iv_lt h_4
    have iv_6 : IV z_1 (-2147483648) 2147483646 := iv_ltL (iv_lt h_4) (iv_any z_1) (iv_any r_2) (by decide)
    have iv_7 : IV r_2 (-2147483647) 2147483647 := iv_ltR (iv_lt h_4) (iv_any z_1) (iv_any r_2) (by decide)
    refine k_iconst (v := 0) X dX11_isGone_18 (by decide) ?_
    exact k_zret X hr (by first | rfl | decide) dX11_isGone_19 (Nat.le_of_ble_eq_true rfl) (Nat.le_of_ble_eq_true rfl) [1, 2, 3, 0] (by decide) rfl rfl ⟨(iv_w (show IV 0 0 0 from (by decide)) (by decide) (by decide)), (by subst_vars; unfold gnF; first | rw [if_neg (Int32.not_le.mpr (by assumption))] | rw [if_pos (Int32.not_lt.mp (by assumption))]), rfl⟩
  · skip
    have j_8 : r_2.toInt ≤ z_1.toInt := iv_nlt h_4
    refine k_iconst (v := 1) X dX11_isGone_14 (by decide) ?_
    refine k_goto 19 X dX11_isGone_15 (by decide) ?_
    exact k_zret X hr (by first | rfl | decide) dX11_isGone_19 (Nat.le_of_ble_eq_true rfl) (Nat.le_of_ble_eq_true rfl) [1, 2, 3, 0] (by decide) rfl rfl ⟨(iv_w (show IV 1 1 1 from (by decide)) (by decide) (by decide)), (by subst_vars; unfold gnF; first | rw [if_neg (Int32.not_le.mpr (by assumption))] | rw [if_pos (Int32.not_lt.mp (by assumption))]), rfl⟩


set_option maxHeartbeats 4000000 in
set_option maxRecDepth 100000 in
theorem m_markOfE (l : Launch) (g : Gx) (h0 : Nat) (p0 : Int32) (p1 : Int32) (m_thrown : Int32) (a_tape : Nat) (m_taped : Int32) (m_size : Int32) (m_at : Int32) (m_end : Int32) (m_token : Int32) (m_whole : Int32) (m_nameSize : Int32) (m_fault : Int32) (m_place : Int32) (m_trouble : Int32) (a_letters : Nat) (m_failed : Int32) (m_hasHouse : Int32) (a_r : Nat) (a_fresh : Nat) (a_st : Nat) (a_undone : Nat) (a_kept : Nat) (m_undos : Int32) (m_images : Int32) (a_from : Nat) (a_begin : Nat) (a_motor : Nat) (a_change : Nat) (a_startFrame : Nat) (a_changeFrame : Nat) (a_lostAt : Nat) (a_blackAt : Nat) (a_slips : Nat) (a_leftArc : Nat) (a_died : Nat) (a_arcs : Nat) (m_bestSum : Int32) (m_nearest : Int32) (m_nearestTown : Int32) (a_there : Nat) (a_backAt : Nat) (a_sorted : Nat) (a_parts : Nat) (m_seed1 : Int32) (m_darkNow : Int32) (d_r : Nat → Int32) (d_st : Nat → Int32) (hp_d_r : RInv d_r) : cI l g yX11_markOf cX11_markOf 4 (some .int) 0 0 0 0 [.ref h0, .int p0, .int p1] [(cO11_i1r1i10r1i2r5i2r12i3r4i2 h0 m_thrown a_tape m_taped m_size m_at m_end m_token m_whole m_nameSize m_fault m_place m_trouble a_letters m_failed m_hasHouse a_r a_fresh a_st a_undone a_kept m_undos m_images a_from a_begin a_motor a_change a_startFrame a_changeFrame a_lostAt a_blackAt a_slips a_leftArc a_died a_arcs m_bestSum m_nearest m_nearestTown a_there a_backAt a_sorted a_parts m_seed1 m_darkNow), (cAI g a_r 311 d_r), (cAI g a_st 44 d_st)] (fun r w => (r = mkF d_r d_st p0 p1 (d_r 8).toInt.toNat 0) ∧ w = [(cO11_i1r1i10r1i2r5i2r12i3r4i2 h0 m_thrown a_tape m_taped m_size m_at m_end m_token m_whole m_nameSize m_fault m_place m_trouble a_letters m_failed m_hasHouse a_r a_fresh a_st a_undone a_kept m_undos m_images a_from a_begin a_motor a_change a_startFrame a_changeFrame a_lostAt a_blackAt a_slips a_leftArc a_died a_arcs m_bestSum m_nearest m_nearestTown a_there a_backAt a_sorted a_parts m_seed1 m_darkNow), (cAI g a_r 311 d_r), (cAI g a_st 44 d_st)]) := by
  refine cI.of (by decide) (Nat.le_of_ble_eq_true rfl) ?_
  intro p e s m args below meth c A X hr hi
  refine k_lveq [(0, .ref h0), (1, .int p0), (2, .int p1)] rfl ?_
  refine k_iconst (v := 0) X dX11_markOf_0 (by decide) ?_
  refine k_istore_n [(3, .int 0), (0, .ref h0), (1, .int p0), (2, .int p1)] X dX11_markOf_1 (by decide) rfl ?_
  refine (fun hL : ∀ (nn_4 : Nat) (u_1 : Int32), (2147483647 - u_1.toInt).toNat = nn_4 → (IV u_1 0 255) → (mkF d_r d_st p0 p1 (d_r 8).toInt.toNat 0 = mkF d_r d_st p0 p1 ((d_r 8).toInt - u_1.toInt).toNat u_1) → Wk p l e _ s m args below meth c _ A g _ _ _ [(cO11_i1r1i10r1i2r5i2r12i3r4i2 h0 m_thrown a_tape m_taped m_size m_at m_end m_token m_whole m_nameSize m_fault m_place m_trouble a_letters m_failed m_hasHouse a_r a_fresh a_st a_undone a_kept m_undos m_images a_from a_begin a_motor a_change a_startFrame a_changeFrame a_lostAt a_blackAt a_slips a_leftArc a_died a_arcs m_bestSum m_nearest m_nearestTown a_there a_backAt a_sorted a_parts m_seed1 m_darkNow), (cAI g a_r 311 d_r), (cAI g a_st 44 d_st)] [(3, .int u_1), (0, .ref h0), (1, .int p0), (2, .int p1)] 2 [] => hL _ 0 rfl (iv_w (show IV 0 0 0 from (by decide)) (by decide) (by decide)) (by rw [zI, Int.sub_zero])) ?_
  refine fun nn_4 => Nat.strongRecOn nn_4 (fun nn_4 ih_6 => ?_)
  intro u_1 hm_5 hv_2 hx_3
  refine k_iload_n X dX11_markOf_2 0 rfl ?_
  refine k_aload_n X dX11_markOf_3 1 rfl ?_
  refine k_get (ci := 11) X inlX11 rfl 15 (by decide) dX11_markOf_4 mw170 0 rfl rfl ?_
  refine k_bipush (v := 8) X dX11_markOf_7 (by decide) ?_
  refine k_iald X dX11_markOf_9 1 rfl (by unfold vp_in; decide) ?_
  refine k_nm (fun z_7 ez_7 => ?_)
  have i_8 : z_7.toInt = (d_r 8).toInt := by rw [ez_7]; rfl
  have iv_9 : IV z_7 0 12 := rb_8 ez_7 hp_d_r
  refine k_ic_ge 61 X dX11_markOf_10 (by decide) (fun h_10 => ?_) (fun h_10 => ?_)
  · skip
    have j_11 : z_7.toInt ≤ u_1.toInt := iv_le h_10
    refine k_bipush (v := -2) X dX11_markOf_61 (by decide) ?_
    exact k_iret X hr dX11_markOf_63 (Nat.le_of_ble_eq_true rfl) (Nat.le_of_ble_eq_true rfl) [0, 1, 2] (by decide) rfl rfl ⟨(mk_end hx_3 (by omega)), rfl⟩
  · skip
    have j_12 : u_1.toInt < z_7.toInt := iv_nle h_10
    have iv_13 : IV u_1 0 11 := iv_ltL (iv_nle h_10) hv_2 iv_9 (by decide)
    have iv_14 : IV z_7 1 12 := iv_ltR (iv_nle h_10) hv_2 iv_9 (by decide)
    refine k_aload_n X dX11_markOf_13 1 rfl ?_
    refine k_get (ci := 11) X inlX11 rfl 15 (by decide) dX11_markOf_14 mw170 0 rfl rfl ?_
    refine k_bipush (v := 44) X dX11_markOf_17 (by decide) ?_
    refine k_iconst (v := 3) X dX11_markOf_19 (by decide) ?_
    refine k_iload_n X dX11_markOf_20 0 rfl ?_
    refine k_imul X dX11_markOf_21 ?_
    refine k_nm (fun z_15 ez_15 => ?_)
    have i_16 : z_15.toInt = 3 * u_1.toInt := in_mul ez_15 (by decide) (by decide) iv_13 (by decide) (by decide)
    have iv_17 : IV z_15 0 33 := iz4 i_16 iv_13 (by decide) (by decide) (by decide)
    refine k_iadd X dX11_markOf_22 ?_
    refine k_nm (fun z_18 ez_18 => ?_)
    have i_19 : z_18.toInt = 44 + z_15.toInt := in_add ez_18 (show IV 44 44 44 from (by decide)) iv_17 (by decide) (by decide)
    have iv_20 : IV z_18 44 77 := iz2 i_19 iv_17 (by decide) (by decide)
    refine k_iald X dX11_markOf_23 1 rfl (iv_in iv_20 (by decide) (by decide)) ?_
    refine k_nm (fun z_21 ez_21 => ?_)
    have i_22 : z_18.toInt = 44 + 3 * u_1.toInt := by omega
    have iv_23 : IV z_21 0 7 := rb_44_3 ez_21 hp_d_r i_22 (iv_w iv_13 (by decide) (by decide))
    refine k_iload_n X dX11_markOf_24 2 rfl ?_
    refine k_ic_ne 55 X dX11_markOf_25 (by decide) (fun h_24 => ?_) (fun h_24 => ?_)
    · skip
      obtain ⟨z_25, ez_25⟩ : ∃ y : Int32, u_1 + Int32.ofInt 1 = y := ⟨_, rfl⟩
      refine k_iinc z_25 [(3, .int z_25), (0, .ref h0), (1, .int p0), (2, .int p1)] 0 X dX11_markOf_55 rfl ez_25 (by decide) rfl ?_
      have i_26 : z_25.toInt = u_1.toInt + 1 := in_inc ez_25 (by decide) iv_13 (by decide) (by decide)
      have iv_27 : IV z_25 1 12 := iz1 i_26 iv_13 (by decide) (by decide)
      refine k_goto 2 X dX11_markOf_58 (by decide) ?_
      exact ih_6 _ (by omega) z_25 rfl (iv_w iv_27 (by decide) (by decide)) (mk_step hx_3 (by omega) (by assumption) (by omega) (by subst_vars; first | exact fun q => absurd q.1 (by assumption) | exact fun q => absurd q.2 (by assumption)))
    · skip
      have iv_28 : IV p0 0 7 := iv_meet (iv_any p0) (iv_e h_24.symm iv_23) (by decide) (by decide)
      refine k_aload_n X dX11_markOf_28 1 rfl ?_
      refine k_get (ci := 11) X inlX11 rfl 15 (by decide) dX11_markOf_29 mw170 0 rfl rfl ?_
      refine k_bipush (v := 44) X dX11_markOf_32 (by decide) ?_
      refine k_iconst (v := 3) X dX11_markOf_34 (by decide) ?_
      refine k_iload_n X dX11_markOf_35 0 rfl ?_
      refine k_imul X dX11_markOf_36 ?_
      refine k_to z_15 ez_15.symm ?_
      refine k_iadd X dX11_markOf_37 ?_
      refine k_to z_18 ez_18.symm ?_
      refine k_iconst (v := 2) X dX11_markOf_38 (by decide) ?_
      refine k_iadd X dX11_markOf_39 ?_
      refine k_nm (fun z_29 ez_29 => ?_)
      have i_30 : z_29.toInt = z_18.toInt + 2 := in_add ez_29 iv_20 (show IV 2 2 2 from (by decide)) (by decide) (by decide)
      have iv_31 : IV z_29 46 79 := iz1 i_30 iv_20 (by decide) (by decide)
      refine k_iald X dX11_markOf_40 1 rfl (iv_in iv_31 (by decide) (by decide)) ?_
      refine k_nm (fun z_32 ez_32 => ?_)
      have i_33 : z_29.toInt = 46 + 3 * u_1.toInt := by omega
      have iv_34 : IV z_32 0 3 := rb_46_3 ez_32 hp_d_r i_33 (iv_w iv_13 (by decide) (by decide))
      refine k_iload_n X dX11_markOf_41 3 rfl ?_
      refine k_ic_ne 55 X dX11_markOf_42 (by decide) (fun h_35 => ?_) (fun h_35 => ?_)
      · skip
        obtain ⟨z_36, ez_36⟩ : ∃ y : Int32, u_1 + Int32.ofInt 1 = y := ⟨_, rfl⟩
        refine k_iinc z_36 [(3, .int z_36), (0, .ref h0), (1, .int p0), (2, .int p1)] 0 X dX11_markOf_55 rfl ez_36 (by decide) rfl ?_
        have i_37 : z_36.toInt = u_1.toInt + 1 := in_inc ez_36 (by decide) iv_13 (by decide) (by decide)
        have iv_38 : IV z_36 1 12 := iz1 i_37 iv_13 (by decide) (by decide)
        refine k_goto 2 X dX11_markOf_58 (by decide) ?_
        exact ih_6 _ (by omega) z_36 rfl (iv_w iv_38 (by decide) (by decide)) (mk_step hx_3 (by omega) (by assumption) (by omega) (by subst_vars; first | exact fun q => absurd q.1 (by assumption) | exact fun q => absurd q.2 (by assumption)))
      · skip
        have iv_39 : IV p1 0 3 := iv_meet (iv_any p1) (iv_e h_35.symm iv_34) (by decide) (by decide)
        refine k_aload_n X dX11_markOf_45 1 rfl ?_
        refine k_get (ci := 11) X inlX11 rfl 17 (by decide) dX11_markOf_46 mw172 0 rfl rfl ?_
        refine k_bipush (v := 16) X dX11_markOf_49 (by decide) ?_
        refine k_iload_n X dX11_markOf_51 0 rfl ?_
        refine k_iadd X dX11_markOf_52 ?_
        refine k_nm (fun z_40 ez_40 => ?_)
        have i_41 : z_40.toInt = 16 + u_1.toInt := in_add ez_40 (show IV 16 16 16 from (by decide)) iv_13 (by decide) (by decide)
        have iv_42 : IV z_40 16 27 := iz2 i_41 iv_13 (by decide) (by decide)
        refine k_iald X dX11_markOf_53 2 rfl (iv_in iv_42 (by decide) (by decide)) ?_
        refine k_nm (fun z_43 ez_43 => ?_)
        exact k_iret X hr dX11_markOf_54 (Nat.le_of_ble_eq_true rfl) (Nat.le_of_ble_eq_true rfl) [0, 1, 2] (by decide) rfl rfl ⟨(by have hh := mk_hit hx_3 (by omega) (by subst_vars; exact ⟨by first | rfl | assumption | exact Eq.symm (by assumption), by first | rfl | assumption | exact Eq.symm (by assumption)⟩); rw [← hh]; subst_vars; rfl), rfl⟩


set_option maxHeartbeats 4000000 in
set_option maxRecDepth 100000 in
theorem m_believesOfE (l : Launch) (g : Gx) (h0 : Nat) (p0 : Int32) (p1 : Int32) (m_thrown : Int32) (a_tape : Nat) (m_taped : Int32) (m_size : Int32) (m_at : Int32) (m_end : Int32) (m_token : Int32) (m_whole : Int32) (m_nameSize : Int32) (m_fault : Int32) (m_place : Int32) (m_trouble : Int32) (a_letters : Nat) (m_failed : Int32) (m_hasHouse : Int32) (a_r : Nat) (a_fresh : Nat) (a_st : Nat) (a_undone : Nat) (a_kept : Nat) (m_undos : Int32) (m_images : Int32) (a_from : Nat) (a_begin : Nat) (a_motor : Nat) (a_change : Nat) (a_startFrame : Nat) (a_changeFrame : Nat) (a_lostAt : Nat) (a_blackAt : Nat) (a_slips : Nat) (a_leftArc : Nat) (a_died : Nat) (a_arcs : Nat) (m_bestSum : Int32) (m_nearest : Int32) (m_nearestTown : Int32) (a_there : Nat) (a_backAt : Nat) (a_sorted : Nat) (a_parts : Nat) (m_seed1 : Int32) (m_darkNow : Int32) (d_r : Nat → Int32) (d_st : Nat → Int32) (hv_p0 : IV p0 0 3) (hv_p1 : IV p1 0 7) (hp_d_r : RInv d_r) : cI l g yX11_believesOf cX11_believesOf 7 (some .int) 1 23 0 0 [.ref h0, .int p0, .int p1] [(cO11_i1r1i10r1i2r5i2r12i3r4i2 h0 m_thrown a_tape m_taped m_size m_at m_end m_token m_whole m_nameSize m_fault m_place m_trouble a_letters m_failed m_hasHouse a_r a_fresh a_st a_undone a_kept m_undos m_images a_from a_begin a_motor a_change a_startFrame a_changeFrame a_lostAt a_blackAt a_slips a_leftArc a_died a_arcs m_bestSum m_nearest m_nearestTown a_there a_backAt a_sorted a_parts m_seed1 m_darkNow), (cAI g a_r 311 d_r), (cAI g a_st 44 d_st)] (fun r w => (r = belF d_r d_st p0 p1) ∧ w = [(cO11_i1r1i10r1i2r5i2r12i3r4i2 h0 m_thrown a_tape m_taped m_size m_at m_end m_token m_whole m_nameSize m_fault m_place m_trouble a_letters m_failed m_hasHouse a_r a_fresh a_st a_undone a_kept m_undos m_images a_from a_begin a_motor a_change a_startFrame a_changeFrame a_lostAt a_blackAt a_slips a_leftArc a_died a_arcs m_bestSum m_nearest m_nearestTown a_there a_backAt a_sorted a_parts m_seed1 m_darkNow), (cAI g a_r 311 d_r), (cAI g a_st 44 d_st)]) := by
  refine cI.of (by decide) (Nat.le_of_ble_eq_true rfl) ?_
  intro p e s m args below meth c A X hr hi
  refine k_lveq [(0, .ref h0), (1, .int p0), (2, .int p1)] rfl ?_
  refine k_aload_n X dX11_believesOf_0 0 rfl ?_
  refine k_iload_n X dX11_believesOf_1 2 rfl ?_
  refine k_callVI (n := 1) (As := [.int p1]) (st := []) X [(cO11_i1r1i10r1i2r5i2r12i3r4i2 h0 m_thrown a_tape m_taped m_size m_at m_end m_token m_whole m_nameSize m_fault m_place m_trouble a_letters m_failed m_hasHouse a_r a_fresh a_st a_undone a_kept m_undos m_images a_from a_begin a_motor a_change a_startFrame a_changeFrame a_lostAt a_blackAt a_slips a_leftArc a_died a_arcs m_bestSum m_nearest m_nearestTown a_there a_backAt a_sorted a_parts m_seed1 m_darkNow), (cAI g a_r 311 d_r)] [(cAI g a_st 44 d_st)] [0, 1] [2] (m_reelAtE l g h0 p1 m_thrown a_tape m_taped m_size m_at m_end m_token m_whole m_nameSize m_fault m_place m_trouble a_letters m_failed m_hasHouse a_r a_fresh a_st a_undone a_kept m_undos m_images a_from a_begin a_motor a_change a_startFrame a_changeFrame a_lostAt a_blackAt a_slips a_leftArc a_died a_arcs m_bestSum m_nearest m_nearestTown a_there a_backAt a_sorted a_parts m_seed1 m_darkNow d_r (iv_w hv_p1 (by decide) (by decide)) hp_d_r) dX11_believesOf_2 mw723 mw724 mw725 mw5 mw726 rfl 11 rfl rfl 0 _ rfl yk_yX11_reelAt_1 rfl (Nat.le_of_ble_eq_true rfl) (Nat.le_of_ble_eq_true rfl) (Nat.le_of_ble_eq_true rfl) (Nat.le_of_ble_eq_true rfl) (Nat.le_of_ble_eq_true rfl) rfl rfl (by decide) rfl (by decide) (by decide) ?_
  rintro r_1 w ⟨iv_2, hq_3, rfl⟩
  refine k_ws [(cAI g a_st 44 d_st), (cO11_i1r1i10r1i2r5i2r12i3r4i2 h0 m_thrown a_tape m_taped m_size m_at m_end m_token m_whole m_nameSize m_fault m_place m_trouble a_letters m_failed m_hasHouse a_r a_fresh a_st a_undone a_kept m_undos m_images a_from a_begin a_motor a_change a_startFrame a_changeFrame a_lostAt a_blackAt a_slips a_leftArc a_died a_arcs m_bestSum m_nearest m_nearestTown a_there a_backAt a_sorted a_parts m_seed1 m_darkNow), (cAI g a_r 311 d_r)] rfl ?_
  refine k_istore_n [(3, .int r_1), (0, .ref h0), (1, .int p0), (2, .int p1)] X dX11_believesOf_5 (by decide) rfl ?_
  refine k_aload_n X dX11_believesOf_6 1 rfl ?_
  refine k_get (ci := 11) X inlX11 rfl 15 (by decide) dX11_believesOf_7 mw170 1 rfl rfl ?_
  refine k_bipush (v := 114) X dX11_believesOf_10 (by decide) ?_
  refine k_iconst (v := 3) X dX11_believesOf_12 (by decide) ?_
  refine k_iload_n X dX11_believesOf_13 2 rfl ?_
  refine k_imul X dX11_believesOf_14 ?_
  refine k_nm (fun z_4 ez_4 => ?_)
  have i_5 : z_4.toInt = 3 * p0.toInt := in_mul ez_4 (by decide) (by decide) hv_p0 (by decide) (by decide)
  have iv_6 : IV z_4 0 9 := iz4 i_5 hv_p0 (by decide) (by decide) (by decide)
  refine k_iadd X dX11_believesOf_15 ?_
  refine k_nm (fun z_7 ez_7 => ?_)
  have i_8 : z_7.toInt = 114 + z_4.toInt := in_add ez_7 (show IV 114 114 114 from (by decide)) iv_6 (by decide) (by decide)
  have iv_9 : IV z_7 114 123 := iz2 i_8 iv_6 (by decide) (by decide)
  refine k_iald X dX11_believesOf_16 2 rfl (iv_in iv_9 (by decide) (by decide)) ?_
  refine k_nm (fun z_10 ez_10 => ?_)
  refine k_istore [(4, .int z_10), (3, .int r_1), (0, .ref h0), (1, .int p0), (2, .int p1)] X dX11_believesOf_17 (by decide) rfl ?_
  refine k_aload_n X dX11_believesOf_19 2 rfl ?_
  refine k_get (ci := 11) X inlX11 rfl 17 (by decide) dX11_believesOf_20 mw172 1 rfl rfl ?_
  refine k_bipush (v := 8) X dX11_believesOf_23 (by decide) ?_
  refine k_iload_n X dX11_believesOf_25 1 rfl ?_
  refine k_iadd X dX11_believesOf_26 ?_
  refine k_nm (fun z_11 ez_11 => ?_)
  have i_12 : z_11.toInt = 8 + r_1.toInt := in_add ez_11 (show IV 8 8 8 from (by decide)) iv_2 (by decide) (by decide)
  have iv_13 : IV z_11 8 15 := by have := (show IV 8 8 8 from (by decide)); have := iv_2; rw [IV, i_12]; omega
  refine k_iald X dX11_believesOf_27 0 rfl (iv_in iv_13 (by decide) (by decide)) ?_
  refine k_nm (fun z_14 ez_14 => ?_)
  refine k_istore [(5, .int z_14), (4, .int z_10), (3, .int r_1), (0, .ref h0), (1, .int p0), (2, .int p1)] X dX11_believesOf_28 (by decide) rfl ?_
  refine k_iload X dX11_believesOf_30 1 rfl ?_
  refine k_iconst (v := 3) X dX11_believesOf_32 (by decide) ?_
  refine k_ic_ne 69 X dX11_believesOf_33 (by decide) (fun h_15 => ?_) (fun h_15 => ?_)
  · skip
    refine k_iconst (v := 0) X dX11_believesOf_69 (by decide) ?_
    refine k_istore [(6, .int 0), (5, .int z_14), (4, .int z_10), (3, .int r_1), (0, .ref h0), (1, .int p0), (2, .int p1)] X dX11_believesOf_70 (by decide) rfl ?_
    refine (fun hL : ∀ (nn_21 : Nat) (u_16 : Int32) (u_17 : Int32), (2147483647 - u_17.toInt).toNat = nn_21 → (IV u_17 0 255) → (blF d_r d_st (rlF d_r p1) (d_r (114 + 3 * p0).toNatClampNeg) (d_r 8).toInt.toNat 0 (d_st (8 + rlF d_r p1).toNatClampNeg) = blF d_r d_st r_1 z_10 ((d_r 8).toInt - u_17.toInt).toNat u_17 u_16) → (z_10 = 0 → u_16 = z_14) → Wk p l e _ s m args below meth c _ A g _ _ _ [(cAI g a_st 44 d_st), (cO11_i1r1i10r1i2r5i2r12i3r4i2 h0 m_thrown a_tape m_taped m_size m_at m_end m_token m_whole m_nameSize m_fault m_place m_trouble a_letters m_failed m_hasHouse a_r a_fresh a_st a_undone a_kept m_undos m_images a_from a_begin a_motor a_change a_startFrame a_changeFrame a_lostAt a_blackAt a_slips a_leftArc a_died a_arcs m_bestSum m_nearest m_nearestTown a_there a_backAt a_sorted a_parts m_seed1 m_darkNow), (cAI g a_r 311 d_r)] [(6, .int u_17), (5, .int u_16), (4, .int z_10), (3, .int r_1), (0, .ref h0), (1, .int p0), (2, .int p1)] 72 [] => hL _ z_14 0 rfl (iv_w (show IV 0 0 0 from (by decide)) (by decide) (by decide)) (by subst_vars; rw [zI, Int.sub_zero]; try rfl) (fun _ => rfl)) ?_
    refine fun nn_21 => Nat.strongRecOn nn_21 (fun nn_21 ih_23 => ?_)
    intro u_16 u_17 hm_22 hv_18 hx_19 hx_20
    refine k_iload X dX11_believesOf_72 0 rfl ?_
    refine k_aload_n X dX11_believesOf_74 4 rfl ?_
    refine k_get (ci := 11) X inlX11 rfl 15 (by decide) dX11_believesOf_75 mw170 1 rfl rfl ?_
    refine k_bipush (v := 8) X dX11_believesOf_78 (by decide) ?_
    refine k_iald X dX11_believesOf_80 2 rfl (by unfold vp_in; decide) ?_
    refine k_nm (fun z_24 ez_24 => ?_)
    have i_25 : z_24.toInt = (d_r 8).toInt := by rw [ez_24]; rfl
    have iv_26 : IV z_24 0 12 := rb_8 ez_24 hp_d_r
    refine k_ic_ge 152 X dX11_believesOf_81 (by decide) (fun h_27 => ?_) (fun h_27 => ?_)
    · skip
      have j_28 : z_24.toInt ≤ u_17.toInt := iv_le h_27
      refine k_iload X dX11_believesOf_152 1 rfl ?_
      exact k_iret X hr dX11_believesOf_154 (Nat.le_of_ble_eq_true rfl) (Nat.le_of_ble_eq_true rfl) [1, 2, 0] (by decide) rfl rfl ⟨(bel_n (kind := z_10) (f0 := z_14) (by subst_vars; first | rfl | assumption | exact Eq.symm (by assumption)) (by assumption) (by subst_vars; first | rfl | assumption | exact Eq.symm (by assumption)) hx_20 (fun _ => bl_end hx_19 (by omega))), rfl⟩
    · skip
      have j_29 : u_17.toInt < z_24.toInt := iv_nle h_27
      have iv_30 : IV u_17 0 11 := iv_ltL (iv_nle h_27) hv_18 iv_26 (by decide)
      have iv_31 : IV z_24 1 12 := iv_ltR (iv_nle h_27) hv_18 iv_26 (by decide)
      refine k_iload X dX11_believesOf_84 2 rfl ?_
      refine k_if_eq 152 X dX11_believesOf_86 (by decide) (fun h_32 => ?_) (fun h_32 => ?_)
      · skip
        have iv_33 : IV z_10 0 0 := iv_meet (iv_any z_10) (iv_e h_32 (show IV 0 0 0 from (by decide))) (by decide) (by decide)
        refine k_iload X dX11_believesOf_152 1 rfl ?_
        exact k_iret X hr dX11_believesOf_154 (Nat.le_of_ble_eq_true rfl) (Nat.le_of_ble_eq_true rfl) [1, 2, 0] (by decide) rfl rfl ⟨(bel_n (kind := z_10) (f0 := z_14) (by subst_vars; first | rfl | assumption | exact Eq.symm (by assumption)) (by assumption) (by subst_vars; first | rfl | assumption | exact Eq.symm (by assumption)) hx_20 (fun q => absurd (by assumption) q)), rfl⟩
      · skip
        refine k_aload_n X dX11_believesOf_89 4 rfl ?_
        refine k_get (ci := 11) X inlX11 rfl 15 (by decide) dX11_believesOf_90 mw170 1 rfl rfl ?_
        refine k_bipush (v := 44) X dX11_believesOf_93 (by decide) ?_
        refine k_iconst (v := 3) X dX11_believesOf_95 (by decide) ?_
        refine k_iload X dX11_believesOf_96 0 rfl ?_
        refine k_imul X dX11_believesOf_98 ?_
        refine k_nm (fun z_34 ez_34 => ?_)
        have i_35 : z_34.toInt = 3 * u_17.toInt := in_mul ez_34 (by decide) (by decide) iv_30 (by decide) (by decide)
        have iv_36 : IV z_34 0 33 := iz4 i_35 iv_30 (by decide) (by decide) (by decide)
        refine k_iadd X dX11_believesOf_99 ?_
        refine k_nm (fun z_37 ez_37 => ?_)
        have i_38 : z_37.toInt = 44 + z_34.toInt := in_add ez_37 (show IV 44 44 44 from (by decide)) iv_36 (by decide) (by decide)
        have iv_39 : IV z_37 44 77 := iz2 i_38 iv_36 (by decide) (by decide)
        refine k_iald X dX11_believesOf_100 2 rfl (iv_in iv_39 (by decide) (by decide)) ?_
        refine k_nm (fun z_40 ez_40 => ?_)
        have i_41 : z_37.toInt = 44 + 3 * u_17.toInt := by omega
        have iv_42 : IV z_40 0 7 := rb_44_3 ez_40 hp_d_r i_41 (iv_w iv_30 (by decide) (by decide))
        refine k_iload_n X dX11_believesOf_101 3 rfl ?_
        refine k_ic_ne 146 X dX11_believesOf_102 (by decide) (fun h_43 => ?_) (fun h_43 => ?_)
        · skip
          obtain ⟨z_44, ez_44⟩ : ∃ y : Int32, u_17 + Int32.ofInt 1 = y := ⟨_, rfl⟩
          refine k_iinc z_44 [(6, .int z_44), (5, .int u_16), (4, .int z_10), (3, .int r_1), (0, .ref h0), (1, .int p0), (2, .int p1)] 0 X dX11_believesOf_146 rfl ez_44 (by decide) rfl ?_
          have i_45 : z_44.toInt = u_17.toInt + 1 := in_inc ez_44 (by decide) iv_30 (by decide) (by decide)
          have iv_46 : IV z_44 1 12 := iz1 i_45 iv_30 (by decide) (by decide)
          refine k_goto 72 X dX11_believesOf_149 (by decide) ?_
          exact ih_23 _ (by omega) u_16 z_44 rfl (iv_w iv_46 (by decide) (by decide)) (bl_step hx_19 (by omega) (by assumption) (by omega) (by unfold blS; subst_vars; first | (rw [if_neg (by first | assumption | (intro q; exact absurd q.symm (by assumption)))]) | (rw [if_pos (by first | rfl | assumption | exact Eq.symm (by assumption)), if_pos (by first | rfl | assumption | exact Eq.symm (by assumption))]) | (rw [if_pos (by first | rfl | assumption | exact Eq.symm (by assumption)), if_neg (by first | assumption | (intro q; exact absurd q.symm (by assumption)))]))) (fun q => absurd q (by assumption))
        · skip
          refine k_iload X dX11_believesOf_105 2 rfl ?_
          refine k_iconst (v := 1) X dX11_believesOf_107 (by decide) ?_
          refine k_ic_ne 129 X dX11_believesOf_108 (by decide) (fun h_47 => ?_) (fun h_47 => ?_)
          · skip
            refine k_iload X dX11_believesOf_129 1 rfl ?_
            refine k_aload_n X dX11_believesOf_131 4 rfl ?_
            refine k_get (ci := 11) X inlX11 rfl 17 (by decide) dX11_believesOf_132 mw172 1 rfl rfl ?_
            refine k_bipush (v := 16) X dX11_believesOf_135 (by decide) ?_
            refine k_iload X dX11_believesOf_137 0 rfl ?_
            refine k_iadd X dX11_believesOf_139 ?_
            refine k_nm (fun z_48 ez_48 => ?_)
            have i_49 : z_48.toInt = 16 + u_17.toInt := in_add ez_48 (show IV 16 16 16 from (by decide)) iv_30 (by decide) (by decide)
            have iv_50 : IV z_48 16 27 := iz2 i_49 iv_30 (by decide) (by decide)
            refine k_iald X dX11_believesOf_140 0 rfl (iv_in iv_50 (by decide) (by decide)) ?_
            refine k_nm (fun z_51 ez_51 => ?_)
            refine k_callSI (n := 2) (As := [.int u_16, .int z_51]) (st := []) X [] [(cAI g a_st 44 d_st), (cO11_i1r1i10r1i2r5i2r12i3r4i2 h0 m_thrown a_tape m_taped m_size m_at m_end m_token m_whole m_nameSize m_fault m_place m_trouble a_letters m_failed m_hasHouse a_r a_fresh a_st a_undone a_kept m_undos m_images a_from a_begin a_motor a_change a_startFrame a_changeFrame a_lostAt a_blackAt a_slips a_leftArc a_died a_arcs m_bestSum m_nearest m_nearestTown a_there a_backAt a_sorted a_parts m_seed1 m_darkNow), (cAI g a_r 311 d_r)] [] [0, 1, 2] (m_mostE l g u_16 z_51) dX11_believesOf_141 mw842 mw843 mw5 mw844 yk_yX11_most_2 rfl (Nat.le_of_ble_eq_true rfl) (Nat.le_of_ble_eq_true rfl) (Nat.le_of_ble_eq_true rfl) (Nat.le_of_ble_eq_true rfl) (Nat.le_of_ble_eq_true rfl) rfl rfl (by decide) rfl (by decide) (by decide) ?_
            rintro r_52 w ⟨hq_53, rfl⟩
            refine k_ws [(cAI g a_st 44 d_st), (cO11_i1r1i10r1i2r5i2r12i3r4i2 h0 m_thrown a_tape m_taped m_size m_at m_end m_token m_whole m_nameSize m_fault m_place m_trouble a_letters m_failed m_hasHouse a_r a_fresh a_st a_undone a_kept m_undos m_images a_from a_begin a_motor a_change a_startFrame a_changeFrame a_lostAt a_blackAt a_slips a_leftArc a_died a_arcs m_bestSum m_nearest m_nearestTown a_there a_backAt a_sorted a_parts m_seed1 m_darkNow), (cAI g a_r 311 d_r)] rfl ?_
            refine k_istore [(5, .int r_52), (6, .int u_17), (4, .int z_10), (3, .int r_1), (0, .ref h0), (1, .int p0), (2, .int p1)] X dX11_believesOf_144 (by decide) rfl ?_
            obtain ⟨z_54, ez_54⟩ : ∃ y : Int32, u_17 + Int32.ofInt 1 = y := ⟨_, rfl⟩
            refine k_iinc z_54 [(6, .int z_54), (5, .int r_52), (4, .int z_10), (3, .int r_1), (0, .ref h0), (1, .int p0), (2, .int p1)] 1 X dX11_believesOf_146 rfl ez_54 (by decide) rfl ?_
            have i_55 : z_54.toInt = u_17.toInt + 1 := in_inc ez_54 (by decide) iv_30 (by decide) (by decide)
            have iv_56 : IV z_54 1 12 := iz1 i_55 iv_30 (by decide) (by decide)
            refine k_goto 72 X dX11_believesOf_149 (by decide) ?_
            exact ih_23 _ (by omega) r_52 z_54 rfl (iv_w iv_56 (by decide) (by decide)) (bl_step hx_19 (by omega) (by assumption) (by omega) (by unfold blS; subst_vars; first | (rw [if_neg (by first | assumption | (intro q; exact absurd q.symm (by assumption)))]) | (rw [if_pos (by first | rfl | assumption | exact Eq.symm (by assumption)), if_pos (by first | rfl | assumption | exact Eq.symm (by assumption))]) | (rw [if_pos (by first | rfl | assumption | exact Eq.symm (by assumption)), if_neg (by first | assumption | (intro q; exact absurd q.symm (by assumption)))]))) (fun q => absurd q (by assumption))
          · skip
            have iv_57 : IV z_10 1 1 := iv_meet (iv_any z_10) (iv_e h_47 (show IV 1 1 1 from (by decide))) (by decide) (by decide)
            refine k_iload X dX11_believesOf_111 1 rfl ?_
            refine k_aload_n X dX11_believesOf_113 4 rfl ?_
            refine k_get (ci := 11) X inlX11 rfl 17 (by decide) dX11_believesOf_114 mw172 1 rfl rfl ?_
            refine k_bipush (v := 16) X dX11_believesOf_117 (by decide) ?_
            refine k_iload X dX11_believesOf_119 0 rfl ?_
            refine k_iadd X dX11_believesOf_121 ?_
            refine k_nm (fun z_58 ez_58 => ?_)
            have i_59 : z_58.toInt = 16 + u_17.toInt := in_add ez_58 (show IV 16 16 16 from (by decide)) iv_30 (by decide) (by decide)
            have iv_60 : IV z_58 16 27 := iz2 i_59 iv_30 (by decide) (by decide)
            refine k_iald X dX11_believesOf_122 0 rfl (iv_in iv_60 (by decide) (by decide)) ?_
            refine k_nm (fun z_61 ez_61 => ?_)
            refine k_callSI (n := 2) (As := [.int u_16, .int z_61]) (st := []) X [] [(cAI g a_st 44 d_st), (cO11_i1r1i10r1i2r5i2r12i3r4i2 h0 m_thrown a_tape m_taped m_size m_at m_end m_token m_whole m_nameSize m_fault m_place m_trouble a_letters m_failed m_hasHouse a_r a_fresh a_st a_undone a_kept m_undos m_images a_from a_begin a_motor a_change a_startFrame a_changeFrame a_lostAt a_blackAt a_slips a_leftArc a_died a_arcs m_bestSum m_nearest m_nearestTown a_there a_backAt a_sorted a_parts m_seed1 m_darkNow), (cAI g a_r 311 d_r)] [] [0, 1, 2] (m_leastE l g u_16 z_61) dX11_believesOf_123 mw839 mw840 mw5 mw841 yk_yX11_least_2 rfl (Nat.le_of_ble_eq_true rfl) (Nat.le_of_ble_eq_true rfl) (Nat.le_of_ble_eq_true rfl) (Nat.le_of_ble_eq_true rfl) (Nat.le_of_ble_eq_true rfl) rfl rfl (by decide) rfl (by decide) (by decide) ?_
            rintro r_62 w ⟨hq_63, rfl⟩
            refine k_ws [(cAI g a_st 44 d_st), (cO11_i1r1i10r1i2r5i2r12i3r4i2 h0 m_thrown a_tape m_taped m_size m_at m_end m_token m_whole m_nameSize m_fault m_place m_trouble a_letters m_failed m_hasHouse a_r a_fresh a_st a_undone a_kept m_undos m_images a_from a_begin a_motor a_change a_startFrame a_changeFrame a_lostAt a_blackAt a_slips a_leftArc a_died a_arcs m_bestSum m_nearest m_nearestTown a_there a_backAt a_sorted a_parts m_seed1 m_darkNow), (cAI g a_r 311 d_r)] rfl ?_
            refine k_goto 144 X dX11_believesOf_126 (by decide) ?_
            refine k_istore [(5, .int r_62), (6, .int u_17), (4, .int z_10), (3, .int r_1), (0, .ref h0), (1, .int p0), (2, .int p1)] X dX11_believesOf_144 (by decide) rfl ?_
            obtain ⟨z_64, ez_64⟩ : ∃ y : Int32, u_17 + Int32.ofInt 1 = y := ⟨_, rfl⟩
            refine k_iinc z_64 [(6, .int z_64), (5, .int r_62), (4, .int z_10), (3, .int r_1), (0, .ref h0), (1, .int p0), (2, .int p1)] 1 X dX11_believesOf_146 rfl ez_64 (by decide) rfl ?_
            have i_65 : z_64.toInt = u_17.toInt + 1 := in_inc ez_64 (by decide) iv_30 (by decide) (by decide)
            have iv_66 : IV z_64 1 12 := iz1 i_65 iv_30 (by decide) (by decide)
            refine k_goto 72 X dX11_believesOf_149 (by decide) ?_
            exact ih_23 _ (by omega) r_62 z_64 rfl (iv_w iv_66 (by decide) (by decide)) (bl_step hx_19 (by omega) (by assumption) (by omega) (by unfold blS; subst_vars; first | (rw [if_neg (by first | assumption | (intro q; exact absurd q.symm (by assumption)))]) | (rw [if_pos (by first | rfl | assumption | exact Eq.symm (by assumption)), if_pos (by first | rfl | assumption | exact Eq.symm (by assumption))]) | (rw [if_pos (by first | rfl | assumption | exact Eq.symm (by assumption)), if_neg (by first | assumption | (intro q; exact absurd q.symm (by assumption)))]))) (fun q => absurd q (by assumption))
  · skip
    have iv_67 : IV z_10 3 3 := iv_meet (iv_any z_10) (iv_e h_15 (show IV 3 3 3 from (by decide))) (by decide) (by decide)
    refine k_aload_n X dX11_believesOf_36 3 rfl ?_
    refine k_iload_n X dX11_believesOf_37 2 rfl ?_
    refine k_aload_n X dX11_believesOf_38 3 rfl ?_
    refine k_get (ci := 11) X inlX11 rfl 15 (by decide) dX11_believesOf_39 mw170 1 rfl rfl ?_
    refine k_bipush (v := 114) X dX11_believesOf_42 (by decide) ?_
    refine k_iconst (v := 3) X dX11_believesOf_44 (by decide) ?_
    refine k_iload_n X dX11_believesOf_45 4 rfl ?_
    refine k_imul X dX11_believesOf_46 ?_
    refine k_to z_4 ez_4.symm ?_
    refine k_iadd X dX11_believesOf_47 ?_
    refine k_to z_7 ez_7.symm ?_
    refine k_iconst (v := 1) X dX11_believesOf_48 (by decide) ?_
    refine k_iadd X dX11_believesOf_49 ?_
    refine k_nm (fun z_68 ez_68 => ?_)
    have i_69 : z_68.toInt = z_7.toInt + 1 := in_add ez_68 iv_9 (show IV 1 1 1 from (by decide)) (by decide) (by decide)
    have iv_70 : IV z_68 115 124 := iz1 i_69 iv_9 (by decide) (by decide)
    refine k_iald X dX11_believesOf_50 2 rfl (iv_in iv_70 (by decide) (by decide)) ?_
    refine k_nm (fun z_71 ez_71 => ?_)
    refine k_callVI (n := 2) (As := [.int r_1, .int z_71]) (st := []) X [(cO11_i1r1i10r1i2r5i2r12i3r4i2 h0 m_thrown a_tape m_taped m_size m_at m_end m_token m_whole m_nameSize m_fault m_place m_trouble a_letters m_failed m_hasHouse a_r a_fresh a_st a_undone a_kept m_undos m_images a_from a_begin a_motor a_change a_startFrame a_changeFrame a_lostAt a_blackAt a_slips a_leftArc a_died a_arcs m_bestSum m_nearest m_nearestTown a_there a_backAt a_sorted a_parts m_seed1 m_darkNow), (cAI g a_r 311 d_r), (cAI g a_st 44 d_st)] [] [1, 2, 0] [] (m_markOfE l g h0 r_1 z_71 m_thrown a_tape m_taped m_size m_at m_end m_token m_whole m_nameSize m_fault m_place m_trouble a_letters m_failed m_hasHouse a_r a_fresh a_st a_undone a_kept m_undos m_images a_from a_begin a_motor a_change a_startFrame a_changeFrame a_lostAt a_blackAt a_slips a_leftArc a_died a_arcs m_bestSum m_nearest m_nearestTown a_there a_backAt a_sorted a_parts m_seed1 m_darkNow d_r d_st hp_d_r) dX11_believesOf_51 mw703 mw704 mw705 mw5 mw706 rfl 11 rfl rfl 0 _ rfl yk_yX11_markOf_2 rfl (Nat.le_of_ble_eq_true rfl) (Nat.le_of_ble_eq_true rfl) (Nat.le_of_ble_eq_true rfl) (Nat.le_of_ble_eq_true rfl) (Nat.le_of_ble_eq_true rfl) rfl rfl (by decide) rfl (by decide) (by decide) ?_
    rintro r_72 w ⟨hq_73, rfl⟩
    refine k_ws [(cO11_i1r1i10r1i2r5i2r12i3r4i2 h0 m_thrown a_tape m_taped m_size m_at m_end m_token m_whole m_nameSize m_fault m_place m_trouble a_letters m_failed m_hasHouse a_r a_fresh a_st a_undone a_kept m_undos m_images a_from a_begin a_motor a_change a_startFrame a_changeFrame a_lostAt a_blackAt a_slips a_leftArc a_died a_arcs m_bestSum m_nearest m_nearestTown a_there a_backAt a_sorted a_parts m_seed1 m_darkNow), (cAI g a_r 311 d_r), (cAI g a_st 44 d_st)] rfl ?_
    refine k_istore [(6, .int r_72), (5, .int z_14), (4, .int z_10), (3, .int r_1), (0, .ref h0), (1, .int p0), (2, .int p1)] X dX11_believesOf_54 (by decide) rfl ?_
    refine k_iload X dX11_believesOf_56 0 rfl ?_
    refine k_if_ge 66 X dX11_believesOf_58 (by decide) (fun h_74 => ?_) (fun h_74 => ?_)
    · skip
      have j_75 : 0 ≤ r_72.toInt := iv_le h_74
      have iv_76 : IV r_72 0 2147483647 := iv_leR (iv_le h_74) (show IV 0 0 0 from (by decide)) (iv_any r_72) (by decide)
      refine k_iload X dX11_believesOf_66 0 rfl ?_
      exact k_iret X hr dX11_believesOf_68 (Nat.le_of_ble_eq_true rfl) (Nat.le_of_ble_eq_true rfl) [0, 1, 2] (by decide) rfl rfl ⟨(bel_3 (kind := z_10) (mk := r_72) (f := z_14) (by subst_vars; first | rfl | assumption | exact Eq.symm (by assumption)) (by assumption) (by subst_vars; first | rfl | assumption | exact Eq.symm (by assumption)) (by subst_vars; first | rfl | assumption | exact Eq.symm (by assumption)) (by first | (rw [if_pos (Int32.not_le.mp (by assumption))]) | (rw [if_neg (Int32.not_lt.mpr (by assumption))]))), rfl⟩
    · skip
      have j_77 : r_72.toInt < 0 := iv_nle h_74
      have iv_78 : IV r_72 (-2147483648) (-1) := iv_ltL (iv_nle h_74) (iv_any r_72) (show IV 0 0 0 from (by decide)) (by decide)
      refine k_iload X dX11_believesOf_61 1 rfl ?_
      refine k_goto 68 X dX11_believesOf_63 (by decide) ?_
      exact k_iret X hr dX11_believesOf_68 (Nat.le_of_ble_eq_true rfl) (Nat.le_of_ble_eq_true rfl) [0, 1, 2] (by decide) rfl rfl ⟨(bel_3 (kind := z_10) (mk := r_72) (f := z_14) (by subst_vars; first | rfl | assumption | exact Eq.symm (by assumption)) (by assumption) (by subst_vars; first | rfl | assumption | exact Eq.symm (by assumption)) (by subst_vars; first | rfl | assumption | exact Eq.symm (by assumption)) (by first | (rw [if_pos (Int32.not_le.mp (by assumption))]) | (rw [if_neg (Int32.not_lt.mpr (by assumption))]))), rfl⟩


set_option maxHeartbeats 4000000 in
set_option maxRecDepth 100000 in
theorem m_followsE (l : Launch) (g : Gx) (h0 : Nat) (p0 : Int32) (p1 : Int32) (p2 : Int32) (p3 : Int32) (p4 : Int32) (m_thrown : Int32) (a_tape : Nat) (m_taped : Int32) (m_size : Int32) (m_at : Int32) (m_end : Int32) (m_token : Int32) (m_whole : Int32) (m_nameSize : Int32) (m_fault : Int32) (m_place : Int32) (m_trouble : Int32) (a_letters : Nat) (m_failed : Int32) (m_hasHouse : Int32) (a_r : Nat) (a_fresh : Nat) (a_st : Nat) (a_undone : Nat) (a_kept : Nat) (m_undos : Int32) (m_images : Int32) (a_from : Nat) (a_begin : Nat) (a_motor : Nat) (a_change : Nat) (a_startFrame : Nat) (a_changeFrame : Nat) (a_lostAt : Nat) (a_blackAt : Nat) (a_slips : Nat) (a_leftArc : Nat) (a_died : Nat) (a_arcs : Nat) (m_bestSum : Int32) (m_nearest : Int32) (m_nearestTown : Int32) (a_there : Nat) (a_backAt : Nat) (a_sorted : Nat) (a_parts : Nat) (m_seed1 : Int32) (m_darkNow : Int32) (d_from : Nat → Int32) (d_begin : Nat → Int32) (d_motor : Nat → Int32) (d_lostAt : Nat → Int32) (d_blackAt : Nat → Int32) (hv_p0 : IV p0 0 6) (hv_p4 : IV p4 0 1) : cV l g yX11_follows cX11_follows 7 0 0 0 0 [.ref h0, .int p0, .int p1, .int p2, .int p3, .int p4] [(cO11_i1r1i10r1i2r5i2r12i3r4i2 h0 m_thrown a_tape m_taped m_size m_at m_end m_token m_whole m_nameSize m_fault m_place m_trouble a_letters m_failed m_hasHouse a_r a_fresh a_st a_undone a_kept m_undos m_images a_from a_begin a_motor a_change a_startFrame a_changeFrame a_lostAt a_blackAt a_slips a_leftArc a_died a_arcs m_bestSum m_nearest m_nearestTown a_there a_backAt a_sorted a_parts m_seed1 m_darkNow), (cAI g a_from 8 d_from), (cAI g a_begin 8 d_begin), (cAI g a_motor 8 d_motor), (cAI g a_lostAt 8 d_lostAt), (cAI g a_blackAt 8 d_blackAt)] (fun w => ∃ (d_begin2 : Nat → Int32) (d_blackAt2 : Nat → Int32) (d_from2 : Nat → Int32) (d_lostAt2 : Nat → Int32) (d_motor2 : Nat → Int32), (d_from2 = upd d_from (p0 + 1).toNatClampNeg (fwF p3 p4)) ∧ (d_begin2 = upd d_begin (p0 + 1).toNatClampNeg (p2 + bkF p3 p4)) ∧ w = [(cO11_i1r1i10r1i2r5i2r12i3r4i2 h0 m_thrown a_tape m_taped m_size m_at m_end m_token m_whole m_nameSize m_fault m_place m_trouble a_letters m_failed m_hasHouse a_r a_fresh a_st a_undone a_kept m_undos m_images a_from a_begin a_motor a_change a_startFrame a_changeFrame a_lostAt a_blackAt a_slips a_leftArc a_died a_arcs m_bestSum m_nearest m_nearestTown a_there a_backAt a_sorted a_parts m_seed1 m_darkNow), (cAI g a_from 8 d_from2), (cAI g a_begin 8 d_begin2), (cAI g a_motor 8 d_motor2), (cAI g a_lostAt 8 d_lostAt2), (cAI g a_blackAt 8 d_blackAt2)]) := by
  refine cV.of (by decide) (Nat.le_of_ble_eq_true rfl) ?_
  intro p e s m args below meth c A X hr hi
  refine k_lveq [(0, .ref h0), (1, .int p0), (2, .int p1), (3, .int p2), (4, .int p3), (5, .int p4)] rfl ?_
  refine k_iload_n X dX11_follows_0 1 rfl ?_
  refine k_iconst (v := 1) X dX11_follows_1 (by decide) ?_
  refine k_iadd X dX11_follows_2 ?_
  refine k_nm (fun z_1 ez_1 => ?_)
  have i_2 : z_1.toInt = p0.toInt + 1 := in_add ez_1 hv_p0 (show IV 1 1 1 from (by decide)) (by decide) (by decide)
  have iv_3 : IV z_1 1 7 := iz1 i_2 hv_p0 (by decide) (by decide)
  refine k_istore [(6, .int z_1), (0, .ref h0), (1, .int p0), (2, .int p1), (3, .int p2), (4, .int p3), (5, .int p4)] X dX11_follows_3 (by decide) rfl ?_
  refine k_aload_n X dX11_follows_5 1 rfl ?_
  refine k_get (ci := 11) X inlX11 rfl 24 (by decide) dX11_follows_6 mw177 0 rfl rfl ?_
  refine k_iload X dX11_follows_9 0 rfl ?_
  refine k_iload_n X dX11_follows_11 3 rfl ?_
  refine k_iast [(cO11_i1r1i10r1i2r5i2r12i3r4i2 h0 m_thrown a_tape m_taped m_size m_at m_end m_token m_whole m_nameSize m_fault m_place m_trouble a_letters m_failed m_hasHouse a_r a_fresh a_st a_undone a_kept m_undos m_images a_from a_begin a_motor a_change a_startFrame a_changeFrame a_lostAt a_blackAt a_slips a_leftArc a_died a_arcs m_bestSum m_nearest m_nearestTown a_there a_backAt a_sorted a_parts m_seed1 m_darkNow), (cAI g a_from 8 d_from), (cAI g a_begin 8 d_begin), (cAI g a_motor 8 (upd d_motor (z_1 : Int32).toNatClampNeg p1)), (cAI g a_lostAt 8 d_lostAt), (cAI g a_blackAt 8 d_blackAt)] X dX11_follows_12 3 rfl (iv_in iv_3 (by decide) (by decide)) rfl ?_
  refine k_aload_n X dX11_follows_13 1 rfl ?_
  refine k_get (ci := 11) X inlX11 rfl 22 (by decide) dX11_follows_14 mw175 0 rfl rfl ?_
  refine k_iload X dX11_follows_17 0 rfl ?_
  refine k_iload X dX11_follows_19 6 rfl ?_
  refine k_if_ne 29 X dX11_follows_21 (by decide) (fun h_5 => ?_) (fun h_5 => ?_)
  · skip
    have iv_6 : IV p4 1 1 := iv_neL h_5 hv_p4 (show IV 0 0 0 from (by decide)) (by decide)
    refine k_iconst (v := 0) X dX11_follows_29 (by decide) ?_
    refine k_goto 35 X dX11_follows_30 (by decide) ?_
    refine k_iast [(cO11_i1r1i10r1i2r5i2r12i3r4i2 h0 m_thrown a_tape m_taped m_size m_at m_end m_token m_whole m_nameSize m_fault m_place m_trouble a_letters m_failed m_hasHouse a_r a_fresh a_st a_undone a_kept m_undos m_images a_from a_begin a_motor a_change a_startFrame a_changeFrame a_lostAt a_blackAt a_slips a_leftArc a_died a_arcs m_bestSum m_nearest m_nearestTown a_there a_backAt a_sorted a_parts m_seed1 m_darkNow), (cAI g a_from 8 (upd d_from (z_1 : Int32).toNatClampNeg 0)), (cAI g a_begin 8 d_begin), (cAI g a_motor 8 (upd d_motor (z_1 : Int32).toNatClampNeg p1)), (cAI g a_lostAt 8 d_lostAt), (cAI g a_blackAt 8 d_blackAt)] X dX11_follows_35 1 rfl (iv_in iv_3 (by decide) (by decide)) rfl ?_
    refine k_aload_n X dX11_follows_36 1 rfl ?_
    refine k_get (ci := 11) X inlX11 rfl 28 (by decide) dX11_follows_37 mw181 0 rfl rfl ?_
    refine k_iload X dX11_follows_40 0 rfl ?_
    refine k_aload_n X dX11_follows_42 1 rfl ?_
    refine k_get (ci := 11) X inlX11 rfl 22 (by decide) dX11_follows_43 mw175 0 rfl rfl ?_
    refine k_iload X dX11_follows_46 0 rfl ?_
    refine k_iald X dX11_follows_48 1 rfl (iv_in iv_3 (by decide) (by decide)) ?_
    refine k_to 0 upd_at ?_
    refine k_iast [(cO11_i1r1i10r1i2r5i2r12i3r4i2 h0 m_thrown a_tape m_taped m_size m_at m_end m_token m_whole m_nameSize m_fault m_place m_trouble a_letters m_failed m_hasHouse a_r a_fresh a_st a_undone a_kept m_undos m_images a_from a_begin a_motor a_change a_startFrame a_changeFrame a_lostAt a_blackAt a_slips a_leftArc a_died a_arcs m_bestSum m_nearest m_nearestTown a_there a_backAt a_sorted a_parts m_seed1 m_darkNow), (cAI g a_from 8 (upd d_from (z_1 : Int32).toNatClampNeg 0)), (cAI g a_begin 8 d_begin), (cAI g a_motor 8 (upd d_motor (z_1 : Int32).toNatClampNeg p1)), (cAI g a_lostAt 8 (upd d_lostAt (z_1 : Int32).toNatClampNeg 0)), (cAI g a_blackAt 8 d_blackAt)] X dX11_follows_49 4 rfl (iv_in iv_3 (by decide) (by decide)) rfl ?_
    refine k_aload_n X dX11_follows_50 1 rfl ?_
    refine k_get (ci := 11) X inlX11 rfl 29 (by decide) dX11_follows_51 mw182 0 rfl rfl ?_
    refine k_iload X dX11_follows_54 0 rfl ?_
    refine k_iload X dX11_follows_56 6 rfl ?_
    refine k_if_ne 66 X dX11_follows_58 (by decide) (fun h_9 => ?_) (fun h_9 => (iv_eqN h_9 iv_6 (show IV 0 0 0 from (by decide)) (by decide)).elim)
    refine k_iconst (v := 0) X dX11_follows_66 (by decide) ?_
    refine k_goto 73 X dX11_follows_67 (by decide) ?_
    refine k_iast [(cO11_i1r1i10r1i2r5i2r12i3r4i2 h0 m_thrown a_tape m_taped m_size m_at m_end m_token m_whole m_nameSize m_fault m_place m_trouble a_letters m_failed m_hasHouse a_r a_fresh a_st a_undone a_kept m_undos m_images a_from a_begin a_motor a_change a_startFrame a_changeFrame a_lostAt a_blackAt a_slips a_leftArc a_died a_arcs m_bestSum m_nearest m_nearestTown a_there a_backAt a_sorted a_parts m_seed1 m_darkNow), (cAI g a_from 8 (upd d_from (z_1 : Int32).toNatClampNeg 0)), (cAI g a_begin 8 d_begin), (cAI g a_motor 8 (upd d_motor (z_1 : Int32).toNatClampNeg p1)), (cAI g a_lostAt 8 (upd d_lostAt (z_1 : Int32).toNatClampNeg 0)), (cAI g a_blackAt 8 (upd d_blackAt (z_1 : Int32).toNatClampNeg 0))] X dX11_follows_73 5 rfl (iv_in iv_3 (by decide) (by decide)) rfl ?_
    refine k_aload_n X dX11_follows_74 1 rfl ?_
    refine k_get (ci := 11) X inlX11 rfl 23 (by decide) dX11_follows_75 mw176 0 rfl rfl ?_
    refine k_iload X dX11_follows_78 0 rfl ?_
    refine k_iload_n X dX11_follows_80 4 rfl ?_
    refine k_aload_n X dX11_follows_81 1 rfl ?_
    refine k_get (ci := 11) X inlX11 rfl 29 (by decide) dX11_follows_82 mw182 0 rfl rfl ?_
    refine k_iload X dX11_follows_85 0 rfl ?_
    refine k_iald X dX11_follows_87 5 rfl (iv_in iv_3 (by decide) (by decide)) ?_
    refine k_to 0 upd_at ?_
    refine k_iadd X dX11_follows_88 ?_
    refine k_nm (fun z_11 ez_11 => ?_)
    have i_12 : z_11.toInt = p2.toInt + 0 := in_add ez_11 (iv_any p2) (show IV 0 0 0 from (by decide)) (by decide) (by decide)
    have iv_13 : IV z_11 (-2147483648) 2147483647 := by have := (iv_any p2); have := (show IV 0 0 0 from (by decide)); rw [IV, i_12]; omega
    refine k_iast [(cO11_i1r1i10r1i2r5i2r12i3r4i2 h0 m_thrown a_tape m_taped m_size m_at m_end m_token m_whole m_nameSize m_fault m_place m_trouble a_letters m_failed m_hasHouse a_r a_fresh a_st a_undone a_kept m_undos m_images a_from a_begin a_motor a_change a_startFrame a_changeFrame a_lostAt a_blackAt a_slips a_leftArc a_died a_arcs m_bestSum m_nearest m_nearestTown a_there a_backAt a_sorted a_parts m_seed1 m_darkNow), (cAI g a_from 8 (upd d_from (z_1 : Int32).toNatClampNeg 0)), (cAI g a_begin 8 (upd d_begin (z_1 : Int32).toNatClampNeg z_11)), (cAI g a_motor 8 (upd d_motor (z_1 : Int32).toNatClampNeg p1)), (cAI g a_lostAt 8 (upd d_lostAt (z_1 : Int32).toNatClampNeg 0)), (cAI g a_blackAt 8 (upd d_blackAt (z_1 : Int32).toNatClampNeg 0))] X dX11_follows_89 2 rfl (iv_in iv_3 (by decide) (by decide)) rfl ?_
    exact k_vret X hr dX11_follows_90 (Nat.le_of_ble_eq_true rfl) (Nat.le_of_ble_eq_true rfl) [0, 1, 2, 3, 4, 5] (by decide) rfl rfl ⟨(upd d_begin (z_1 : Int32).toNatClampNeg z_11), (upd d_blackAt (z_1 : Int32).toNatClampNeg 0), (upd d_from (z_1 : Int32).toNatClampNeg 0), (upd d_lostAt (z_1 : Int32).toNatClampNeg 0), (upd d_motor (z_1 : Int32).toNatClampNeg p1), (by subst_vars; unfold fwF; first | rw [if_pos (Or.inl (by assumption))] | rw [if_pos (Or.inr (Int32.not_le.mp (by assumption)))] | rw [if_neg (by intro q; rcases q with q | q; exact q (by assumption); exact absurd q (Int32.not_lt.mpr (by assumption)))]), (by subst_vars; unfold bkF; first | rw [if_pos (Or.inl (by assumption))] | rw [if_pos (Or.inr (Int32.not_le.mp (by assumption)))] | rw [if_neg (by intro q; rcases q with q | q; exact q (by assumption); exact absurd q (Int32.not_lt.mpr (by assumption)))]), rfl⟩
  · skip
    have iv_15 : IV p4 0 0 := iv_meet hv_p4 (iv_e h_5 (show IV 0 0 0 from (by decide))) (by decide) (by decide)
    refine k_iload X dX11_follows_24 5 rfl ?_
    refine k_if_ge 33 X dX11_follows_26 (by decide) (fun h_16 => ?_) (fun h_16 => ?_)
    · skip
      have j_17 : 0 ≤ p3.toInt := iv_le h_16
      have iv_18 : IV p3 0 2147483647 := iv_leR (iv_le h_16) (show IV 0 0 0 from (by decide)) (iv_any p3) (by decide)
      refine k_iload X dX11_follows_33 5 rfl ?_
      refine k_iast [(cO11_i1r1i10r1i2r5i2r12i3r4i2 h0 m_thrown a_tape m_taped m_size m_at m_end m_token m_whole m_nameSize m_fault m_place m_trouble a_letters m_failed m_hasHouse a_r a_fresh a_st a_undone a_kept m_undos m_images a_from a_begin a_motor a_change a_startFrame a_changeFrame a_lostAt a_blackAt a_slips a_leftArc a_died a_arcs m_bestSum m_nearest m_nearestTown a_there a_backAt a_sorted a_parts m_seed1 m_darkNow), (cAI g a_from 8 (upd d_from (z_1 : Int32).toNatClampNeg p3)), (cAI g a_begin 8 d_begin), (cAI g a_motor 8 (upd d_motor (z_1 : Int32).toNatClampNeg p1)), (cAI g a_lostAt 8 d_lostAt), (cAI g a_blackAt 8 d_blackAt)] X dX11_follows_35 1 rfl (iv_in iv_3 (by decide) (by decide)) rfl ?_
      refine k_aload_n X dX11_follows_36 1 rfl ?_
      refine k_get (ci := 11) X inlX11 rfl 28 (by decide) dX11_follows_37 mw181 0 rfl rfl ?_
      refine k_iload X dX11_follows_40 0 rfl ?_
      refine k_aload_n X dX11_follows_42 1 rfl ?_
      refine k_get (ci := 11) X inlX11 rfl 22 (by decide) dX11_follows_43 mw175 0 rfl rfl ?_
      refine k_iload X dX11_follows_46 0 rfl ?_
      refine k_iald X dX11_follows_48 1 rfl (iv_in iv_3 (by decide) (by decide)) ?_
      refine k_to p3 upd_at ?_
      refine k_iast [(cO11_i1r1i10r1i2r5i2r12i3r4i2 h0 m_thrown a_tape m_taped m_size m_at m_end m_token m_whole m_nameSize m_fault m_place m_trouble a_letters m_failed m_hasHouse a_r a_fresh a_st a_undone a_kept m_undos m_images a_from a_begin a_motor a_change a_startFrame a_changeFrame a_lostAt a_blackAt a_slips a_leftArc a_died a_arcs m_bestSum m_nearest m_nearestTown a_there a_backAt a_sorted a_parts m_seed1 m_darkNow), (cAI g a_from 8 (upd d_from (z_1 : Int32).toNatClampNeg p3)), (cAI g a_begin 8 d_begin), (cAI g a_motor 8 (upd d_motor (z_1 : Int32).toNatClampNeg p1)), (cAI g a_lostAt 8 (upd d_lostAt (z_1 : Int32).toNatClampNeg p3)), (cAI g a_blackAt 8 d_blackAt)] X dX11_follows_49 4 rfl (iv_in iv_3 (by decide) (by decide)) rfl ?_
      refine k_aload_n X dX11_follows_50 1 rfl ?_
      refine k_get (ci := 11) X inlX11 rfl 29 (by decide) dX11_follows_51 mw182 0 rfl rfl ?_
      refine k_iload X dX11_follows_54 0 rfl ?_
      refine k_iload X dX11_follows_56 6 rfl ?_
      refine k_if_ne 66 X dX11_follows_58 (by decide) (fun h_21 => absurd (iv_eq iv_15 (show IV 0 0 0 from (by decide))) h_21) (fun h_21 => ?_)
      refine k_iload X dX11_follows_61 5 rfl ?_
      refine k_if_le 70 X dX11_follows_63 (by decide) (fun h_22 => ?_) (fun h_22 => ?_)
      · skip
        have j_23 : p3.toInt ≤ 0 := iv_le h_22
        have iv_24 : IV p3 0 0 := iv_leL (iv_le h_22) iv_18 (show IV 0 0 0 from (by decide)) (by decide)
        refine k_iload X dX11_follows_70 5 rfl ?_
        refine k_ineg X dX11_follows_72 ?_
        refine k_nm (fun z_25 ez_25 => ?_)
        refine k_iast [(cO11_i1r1i10r1i2r5i2r12i3r4i2 h0 m_thrown a_tape m_taped m_size m_at m_end m_token m_whole m_nameSize m_fault m_place m_trouble a_letters m_failed m_hasHouse a_r a_fresh a_st a_undone a_kept m_undos m_images a_from a_begin a_motor a_change a_startFrame a_changeFrame a_lostAt a_blackAt a_slips a_leftArc a_died a_arcs m_bestSum m_nearest m_nearestTown a_there a_backAt a_sorted a_parts m_seed1 m_darkNow), (cAI g a_from 8 (upd d_from (z_1 : Int32).toNatClampNeg p3)), (cAI g a_begin 8 d_begin), (cAI g a_motor 8 (upd d_motor (z_1 : Int32).toNatClampNeg p1)), (cAI g a_lostAt 8 (upd d_lostAt (z_1 : Int32).toNatClampNeg p3)), (cAI g a_blackAt 8 (upd d_blackAt (z_1 : Int32).toNatClampNeg z_25))] X dX11_follows_73 5 rfl (iv_in iv_3 (by decide) (by decide)) rfl ?_
        refine k_aload_n X dX11_follows_74 1 rfl ?_
        refine k_get (ci := 11) X inlX11 rfl 23 (by decide) dX11_follows_75 mw176 0 rfl rfl ?_
        refine k_iload X dX11_follows_78 0 rfl ?_
        refine k_iload_n X dX11_follows_80 4 rfl ?_
        refine k_aload_n X dX11_follows_81 1 rfl ?_
        refine k_get (ci := 11) X inlX11 rfl 29 (by decide) dX11_follows_82 mw182 0 rfl rfl ?_
        refine k_iload X dX11_follows_85 0 rfl ?_
        refine k_iald X dX11_follows_87 5 rfl (iv_in iv_3 (by decide) (by decide)) ?_
        refine k_to z_25 upd_at ?_
        refine k_iadd X dX11_follows_88 ?_
        refine k_nm (fun z_27 ez_27 => ?_)
        refine k_iast [(cO11_i1r1i10r1i2r5i2r12i3r4i2 h0 m_thrown a_tape m_taped m_size m_at m_end m_token m_whole m_nameSize m_fault m_place m_trouble a_letters m_failed m_hasHouse a_r a_fresh a_st a_undone a_kept m_undos m_images a_from a_begin a_motor a_change a_startFrame a_changeFrame a_lostAt a_blackAt a_slips a_leftArc a_died a_arcs m_bestSum m_nearest m_nearestTown a_there a_backAt a_sorted a_parts m_seed1 m_darkNow), (cAI g a_from 8 (upd d_from (z_1 : Int32).toNatClampNeg p3)), (cAI g a_begin 8 (upd d_begin (z_1 : Int32).toNatClampNeg z_27)), (cAI g a_motor 8 (upd d_motor (z_1 : Int32).toNatClampNeg p1)), (cAI g a_lostAt 8 (upd d_lostAt (z_1 : Int32).toNatClampNeg p3)), (cAI g a_blackAt 8 (upd d_blackAt (z_1 : Int32).toNatClampNeg z_25))] X dX11_follows_89 2 rfl (iv_in iv_3 (by decide) (by decide)) rfl ?_
        exact k_vret X hr dX11_follows_90 (Nat.le_of_ble_eq_true rfl) (Nat.le_of_ble_eq_true rfl) [0, 1, 2, 3, 4, 5] (by decide) rfl rfl ⟨(upd d_begin (z_1 : Int32).toNatClampNeg z_27), (upd d_blackAt (z_1 : Int32).toNatClampNeg z_25), (upd d_from (z_1 : Int32).toNatClampNeg p3), (upd d_lostAt (z_1 : Int32).toNatClampNeg p3), (upd d_motor (z_1 : Int32).toNatClampNeg p1), (by subst_vars; unfold fwF; first | rw [if_pos (Or.inl (by assumption))] | rw [if_pos (Or.inr (Int32.not_le.mp (by assumption)))] | rw [if_neg (by intro q; rcases q with q | q; exact q (by assumption); exact absurd q (Int32.not_lt.mpr (by assumption)))]), (by subst_vars; unfold bkF; first | rw [if_pos (Or.inl (by assumption))] | rw [if_pos (Or.inr (Int32.not_le.mp (by assumption)))] | rw [if_neg (by intro q; rcases q with q | q; exact q (by assumption); exact absurd q (Int32.not_lt.mpr (by assumption)))]), rfl⟩
      · skip
        have j_30 : 0 < p3.toInt := iv_nle h_22
        have iv_31 : IV p3 1 2147483647 := iv_ltR (iv_nle h_22) (show IV 0 0 0 from (by decide)) iv_18 (by decide)
        refine k_iconst (v := 0) X dX11_follows_66 (by decide) ?_
        refine k_goto 73 X dX11_follows_67 (by decide) ?_
        refine k_iast [(cO11_i1r1i10r1i2r5i2r12i3r4i2 h0 m_thrown a_tape m_taped m_size m_at m_end m_token m_whole m_nameSize m_fault m_place m_trouble a_letters m_failed m_hasHouse a_r a_fresh a_st a_undone a_kept m_undos m_images a_from a_begin a_motor a_change a_startFrame a_changeFrame a_lostAt a_blackAt a_slips a_leftArc a_died a_arcs m_bestSum m_nearest m_nearestTown a_there a_backAt a_sorted a_parts m_seed1 m_darkNow), (cAI g a_from 8 (upd d_from (z_1 : Int32).toNatClampNeg p3)), (cAI g a_begin 8 d_begin), (cAI g a_motor 8 (upd d_motor (z_1 : Int32).toNatClampNeg p1)), (cAI g a_lostAt 8 (upd d_lostAt (z_1 : Int32).toNatClampNeg p3)), (cAI g a_blackAt 8 (upd d_blackAt (z_1 : Int32).toNatClampNeg 0))] X dX11_follows_73 5 rfl (iv_in iv_3 (by decide) (by decide)) rfl ?_
        refine k_aload_n X dX11_follows_74 1 rfl ?_
        refine k_get (ci := 11) X inlX11 rfl 23 (by decide) dX11_follows_75 mw176 0 rfl rfl ?_
        refine k_iload X dX11_follows_78 0 rfl ?_
        refine k_iload_n X dX11_follows_80 4 rfl ?_
        refine k_aload_n X dX11_follows_81 1 rfl ?_
        refine k_get (ci := 11) X inlX11 rfl 29 (by decide) dX11_follows_82 mw182 0 rfl rfl ?_
        refine k_iload X dX11_follows_85 0 rfl ?_
        refine k_iald X dX11_follows_87 5 rfl (iv_in iv_3 (by decide) (by decide)) ?_
        refine k_to 0 upd_at ?_
        refine k_iadd X dX11_follows_88 ?_
        refine k_nm (fun z_33 ez_33 => ?_)
        have i_34 : z_33.toInt = p2.toInt + 0 := in_add ez_33 (iv_any p2) (show IV 0 0 0 from (by decide)) (by decide) (by decide)
        have iv_35 : IV z_33 (-2147483648) 2147483647 := by have := (iv_any p2); have := (show IV 0 0 0 from (by decide)); rw [IV, i_34]; omega
        refine k_iast [(cO11_i1r1i10r1i2r5i2r12i3r4i2 h0 m_thrown a_tape m_taped m_size m_at m_end m_token m_whole m_nameSize m_fault m_place m_trouble a_letters m_failed m_hasHouse a_r a_fresh a_st a_undone a_kept m_undos m_images a_from a_begin a_motor a_change a_startFrame a_changeFrame a_lostAt a_blackAt a_slips a_leftArc a_died a_arcs m_bestSum m_nearest m_nearestTown a_there a_backAt a_sorted a_parts m_seed1 m_darkNow), (cAI g a_from 8 (upd d_from (z_1 : Int32).toNatClampNeg p3)), (cAI g a_begin 8 (upd d_begin (z_1 : Int32).toNatClampNeg z_33)), (cAI g a_motor 8 (upd d_motor (z_1 : Int32).toNatClampNeg p1)), (cAI g a_lostAt 8 (upd d_lostAt (z_1 : Int32).toNatClampNeg p3)), (cAI g a_blackAt 8 (upd d_blackAt (z_1 : Int32).toNatClampNeg 0))] X dX11_follows_89 2 rfl (iv_in iv_3 (by decide) (by decide)) rfl ?_
        exact k_vret X hr dX11_follows_90 (Nat.le_of_ble_eq_true rfl) (Nat.le_of_ble_eq_true rfl) [0, 1, 2, 3, 4, 5] (by decide) rfl rfl ⟨(upd d_begin (z_1 : Int32).toNatClampNeg z_33), (upd d_blackAt (z_1 : Int32).toNatClampNeg 0), (upd d_from (z_1 : Int32).toNatClampNeg p3), (upd d_lostAt (z_1 : Int32).toNatClampNeg p3), (upd d_motor (z_1 : Int32).toNatClampNeg p1), (by subst_vars; unfold fwF; first | rw [if_pos (Or.inl (by assumption))] | rw [if_pos (Or.inr (Int32.not_le.mp (by assumption)))] | rw [if_neg (by intro q; rcases q with q | q; exact q (by assumption); exact absurd q (Int32.not_lt.mpr (by assumption)))]), (by subst_vars; unfold bkF; first | rw [if_pos (Or.inl (by assumption))] | rw [if_pos (Or.inr (Int32.not_le.mp (by assumption)))] | rw [if_neg (by intro q; rcases q with q | q; exact q (by assumption); exact absurd q (Int32.not_lt.mpr (by assumption)))]), rfl⟩
    · skip
      have j_37 : p3.toInt < 0 := iv_nle h_16
      have iv_38 : IV p3 (-2147483648) (-1) := iv_ltL (iv_nle h_16) (iv_any p3) (show IV 0 0 0 from (by decide)) (by decide)
      refine k_iconst (v := 0) X dX11_follows_29 (by decide) ?_
      refine k_goto 35 X dX11_follows_30 (by decide) ?_
      refine k_iast [(cO11_i1r1i10r1i2r5i2r12i3r4i2 h0 m_thrown a_tape m_taped m_size m_at m_end m_token m_whole m_nameSize m_fault m_place m_trouble a_letters m_failed m_hasHouse a_r a_fresh a_st a_undone a_kept m_undos m_images a_from a_begin a_motor a_change a_startFrame a_changeFrame a_lostAt a_blackAt a_slips a_leftArc a_died a_arcs m_bestSum m_nearest m_nearestTown a_there a_backAt a_sorted a_parts m_seed1 m_darkNow), (cAI g a_from 8 (upd d_from (z_1 : Int32).toNatClampNeg 0)), (cAI g a_begin 8 d_begin), (cAI g a_motor 8 (upd d_motor (z_1 : Int32).toNatClampNeg p1)), (cAI g a_lostAt 8 d_lostAt), (cAI g a_blackAt 8 d_blackAt)] X dX11_follows_35 1 rfl (iv_in iv_3 (by decide) (by decide)) rfl ?_
      refine k_aload_n X dX11_follows_36 1 rfl ?_
      refine k_get (ci := 11) X inlX11 rfl 28 (by decide) dX11_follows_37 mw181 0 rfl rfl ?_
      refine k_iload X dX11_follows_40 0 rfl ?_
      refine k_aload_n X dX11_follows_42 1 rfl ?_
      refine k_get (ci := 11) X inlX11 rfl 22 (by decide) dX11_follows_43 mw175 0 rfl rfl ?_
      refine k_iload X dX11_follows_46 0 rfl ?_
      refine k_iald X dX11_follows_48 1 rfl (iv_in iv_3 (by decide) (by decide)) ?_
      refine k_to 0 upd_at ?_
      refine k_iast [(cO11_i1r1i10r1i2r5i2r12i3r4i2 h0 m_thrown a_tape m_taped m_size m_at m_end m_token m_whole m_nameSize m_fault m_place m_trouble a_letters m_failed m_hasHouse a_r a_fresh a_st a_undone a_kept m_undos m_images a_from a_begin a_motor a_change a_startFrame a_changeFrame a_lostAt a_blackAt a_slips a_leftArc a_died a_arcs m_bestSum m_nearest m_nearestTown a_there a_backAt a_sorted a_parts m_seed1 m_darkNow), (cAI g a_from 8 (upd d_from (z_1 : Int32).toNatClampNeg 0)), (cAI g a_begin 8 d_begin), (cAI g a_motor 8 (upd d_motor (z_1 : Int32).toNatClampNeg p1)), (cAI g a_lostAt 8 (upd d_lostAt (z_1 : Int32).toNatClampNeg 0)), (cAI g a_blackAt 8 d_blackAt)] X dX11_follows_49 4 rfl (iv_in iv_3 (by decide) (by decide)) rfl ?_
      refine k_aload_n X dX11_follows_50 1 rfl ?_
      refine k_get (ci := 11) X inlX11 rfl 29 (by decide) dX11_follows_51 mw182 0 rfl rfl ?_
      refine k_iload X dX11_follows_54 0 rfl ?_
      refine k_iload X dX11_follows_56 6 rfl ?_
      refine k_if_ne 66 X dX11_follows_58 (by decide) (fun h_41 => absurd (iv_eq iv_15 (show IV 0 0 0 from (by decide))) h_41) (fun h_41 => ?_)
      refine k_iload X dX11_follows_61 5 rfl ?_
      refine k_if_le 70 X dX11_follows_63 (by decide) (fun h_42 => ?_) (fun h_42 => (iv_ltN (iv_nle h_42) (show IV 0 0 0 from (by decide)) iv_38 (by decide)).elim)
      have j_43 : p3.toInt ≤ 0 := iv_le h_42
      refine k_iload X dX11_follows_70 5 rfl ?_
      refine k_ineg X dX11_follows_72 ?_
      refine k_nm (fun z_44 ez_44 => ?_)
      refine k_iast [(cO11_i1r1i10r1i2r5i2r12i3r4i2 h0 m_thrown a_tape m_taped m_size m_at m_end m_token m_whole m_nameSize m_fault m_place m_trouble a_letters m_failed m_hasHouse a_r a_fresh a_st a_undone a_kept m_undos m_images a_from a_begin a_motor a_change a_startFrame a_changeFrame a_lostAt a_blackAt a_slips a_leftArc a_died a_arcs m_bestSum m_nearest m_nearestTown a_there a_backAt a_sorted a_parts m_seed1 m_darkNow), (cAI g a_from 8 (upd d_from (z_1 : Int32).toNatClampNeg 0)), (cAI g a_begin 8 d_begin), (cAI g a_motor 8 (upd d_motor (z_1 : Int32).toNatClampNeg p1)), (cAI g a_lostAt 8 (upd d_lostAt (z_1 : Int32).toNatClampNeg 0)), (cAI g a_blackAt 8 (upd d_blackAt (z_1 : Int32).toNatClampNeg z_44))] X dX11_follows_73 5 rfl (iv_in iv_3 (by decide) (by decide)) rfl ?_
      refine k_aload_n X dX11_follows_74 1 rfl ?_
      refine k_get (ci := 11) X inlX11 rfl 23 (by decide) dX11_follows_75 mw176 0 rfl rfl ?_
      refine k_iload X dX11_follows_78 0 rfl ?_
      refine k_iload_n X dX11_follows_80 4 rfl ?_
      refine k_aload_n X dX11_follows_81 1 rfl ?_
      refine k_get (ci := 11) X inlX11 rfl 29 (by decide) dX11_follows_82 mw182 0 rfl rfl ?_
      refine k_iload X dX11_follows_85 0 rfl ?_
      refine k_iald X dX11_follows_87 5 rfl (iv_in iv_3 (by decide) (by decide)) ?_
      refine k_to z_44 upd_at ?_
      refine k_iadd X dX11_follows_88 ?_
      refine k_nm (fun z_46 ez_46 => ?_)
      refine k_iast [(cO11_i1r1i10r1i2r5i2r12i3r4i2 h0 m_thrown a_tape m_taped m_size m_at m_end m_token m_whole m_nameSize m_fault m_place m_trouble a_letters m_failed m_hasHouse a_r a_fresh a_st a_undone a_kept m_undos m_images a_from a_begin a_motor a_change a_startFrame a_changeFrame a_lostAt a_blackAt a_slips a_leftArc a_died a_arcs m_bestSum m_nearest m_nearestTown a_there a_backAt a_sorted a_parts m_seed1 m_darkNow), (cAI g a_from 8 (upd d_from (z_1 : Int32).toNatClampNeg 0)), (cAI g a_begin 8 (upd d_begin (z_1 : Int32).toNatClampNeg z_46)), (cAI g a_motor 8 (upd d_motor (z_1 : Int32).toNatClampNeg p1)), (cAI g a_lostAt 8 (upd d_lostAt (z_1 : Int32).toNatClampNeg 0)), (cAI g a_blackAt 8 (upd d_blackAt (z_1 : Int32).toNatClampNeg z_44))] X dX11_follows_89 2 rfl (iv_in iv_3 (by decide) (by decide)) rfl ?_
      exact k_vret X hr dX11_follows_90 (Nat.le_of_ble_eq_true rfl) (Nat.le_of_ble_eq_true rfl) [0, 1, 2, 3, 4, 5] (by decide) rfl rfl ⟨(upd d_begin (z_1 : Int32).toNatClampNeg z_46), (upd d_blackAt (z_1 : Int32).toNatClampNeg z_44), (upd d_from (z_1 : Int32).toNatClampNeg 0), (upd d_lostAt (z_1 : Int32).toNatClampNeg 0), (upd d_motor (z_1 : Int32).toNatClampNeg p1), (by subst_vars; unfold fwF; first | rw [if_pos (Or.inl (by assumption))] | rw [if_pos (Or.inr (Int32.not_le.mp (by assumption)))] | rw [if_neg (by intro q; rcases q with q | q; exact q (by assumption); exact absurd q (Int32.not_lt.mpr (by assumption)))]), (by subst_vars; unfold bkF; first | rw [if_pos (Or.inl (by assumption))] | rw [if_pos (Or.inr (Int32.not_le.mp (by assumption)))] | rw [if_neg (by intro q; rcases q with q | q; exact q (by assumption); exact absurd q (Int32.not_lt.mpr (by assumption)))]), rfl⟩
