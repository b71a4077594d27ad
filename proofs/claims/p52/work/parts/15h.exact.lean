
set_option maxHeartbeats 4000000 in
set_option maxRecDepth 100000 in
theorem m_layNightE (l : Launch) (g : Gx) (h0 : Nat) (p0 : Int32) (m_thrown : Int32) (a_tape : Nat) (m_taped : Int32) (m_size : Int32) (m_at : Int32) (m_end : Int32) (m_token : Int32) (m_whole : Int32) (m_nameSize : Int32) (m_fault : Int32) (m_place : Int32) (m_trouble : Int32) (a_letters : Nat) (m_failed : Int32) (m_hasHouse : Int32) (a_r : Nat) (a_fresh : Nat) (a_st : Nat) (a_undone : Nat) (a_kept : Nat) (m_undos : Int32) (m_images : Int32) (a_from : Nat) (a_begin : Nat) (a_motor : Nat) (a_change : Nat) (a_startFrame : Nat) (a_changeFrame : Nat) (a_lostAt : Nat) (a_blackAt : Nat) (a_slips : Nat) (a_leftArc : Nat) (a_died : Nat) (a_arcs : Nat) (m_bestSum : Int32) (m_nearest : Int32) (m_nearestTown : Int32) (a_there : Nat) (a_backAt : Nat) (a_sorted : Nat) (a_parts : Nat) (m_seed1 : Int32) (m_darkNow : Int32) (d_r : Nat → Int32) (d_st : Nat → Int32) (d_from : Nat → Int32) (d_begin : Nat → Int32) (d_motor : Nat → Int32) (d_change : Nat → Int32) (d_startFrame : Nat → Int32) (d_changeFrame : Nat → Int32) (d_lostAt : Nat → Int32) (d_blackAt : Nat → Int32) (d_slips : Nat → Int32) (sl : Int32) (hv_p0 : IV p0 0 3) (hp_d_r : RInv d_r) (hr_0 : (∀ i : Nat, i < 8 → d_slips i = sl)) : cV l g yX11_layNight cX11_layNight 6 3 63 0 0 [.ref h0, .int p0] [(cO11_i1r1i10r1i2r5i2r12i3r4i2 h0 m_thrown a_tape m_taped m_size m_at m_end m_token m_whole m_nameSize m_fault m_place m_trouble a_letters m_failed m_hasHouse a_r a_fresh a_st a_undone a_kept m_undos m_images a_from a_begin a_motor a_change a_startFrame a_changeFrame a_lostAt a_blackAt a_slips a_leftArc a_died a_arcs m_bestSum m_nearest m_nearestTown a_there a_backAt a_sorted a_parts m_seed1 m_darkNow), (cAI g a_r 311 d_r), (cAI g a_st 44 d_st), (cAI g a_from 8 d_from), (cAI g a_begin 8 d_begin), (cAI g a_motor 8 d_motor), (cAI g a_change 8 d_change), (cAI g a_startFrame 8 d_startFrame), (cAI g a_changeFrame 8 d_changeFrame), (cAI g a_lostAt 8 d_lostAt), (cAI g a_blackAt 8 d_blackAt), (cAI g a_slips 8 d_slips)] (fun w => ∃ (d_begin2 : Nat → Int32) (d_blackAt2 : Nat → Int32) (d_change2 : Nat → Int32) (d_changeFrame2 : Nat → Int32) (d_from2 : Nat → Int32) (d_lostAt2 : Nat → Int32) (d_motor2 : Nat → Int32) (d_startFrame2 : Nat → Int32), (∀ j : Nat, (j : Int) < (d_r 12).toInt → d_begin2 j = (NS d_r d_st sl p0 j).2 ∧ d_change2 j = CHF d_r d_st sl p0 (d_r 12 - 1) j) ∧ w = [(cO11_i1r1i10r1i2r5i2r12i3r4i2 h0 m_thrown a_tape m_taped m_size m_at m_end m_token m_whole m_nameSize m_fault m_place m_trouble a_letters m_failed m_hasHouse a_r a_fresh a_st a_undone a_kept m_undos m_images a_from a_begin a_motor a_change a_startFrame a_changeFrame a_lostAt a_blackAt a_slips a_leftArc a_died a_arcs m_bestSum m_nearest m_nearestTown a_there a_backAt a_sorted a_parts m_seed1 m_darkNow), (cAI g a_r 311 d_r), (cAI g a_st 44 d_st), (cAI g a_from 8 d_from2), (cAI g a_begin 8 d_begin2), (cAI g a_motor 8 d_motor2), (cAI g a_change 8 d_change2), (cAI g a_startFrame 8 d_startFrame2), (cAI g a_changeFrame 8 d_changeFrame2), (cAI g a_lostAt 8 d_lostAt2), (cAI g a_blackAt 8 d_blackAt2), (cAI g a_slips 8 d_slips)]) := by
  refine cV.of (by decide) (Nat.le_of_ble_eq_true rfl) ?_
  intro p e s m args below meth c A X hr hi
  refine k_lveq [(0, .ref h0), (1, .int p0)] rfl ?_
  refine k_aload_n X dX11_layNight_0 0 rfl ?_
  refine k_get (ci := 11) X inlX11 rfl 15 (by decide) dX11_layNight_1 mw170 0 rfl rfl ?_
  refine k_bipush (v := 12) X dX11_layNight_4 (by decide) ?_
  refine k_iald X dX11_layNight_6 1 rfl (by unfold vp_in; decide) ?_
  refine k_nm (fun z_1 ez_1 => ?_)
  have i_2 : z_1.toInt = (d_r 12).toInt := by rw [ez_1]; rfl
  have iv_3 : IV z_1 0 8 := rb_12 ez_1 hp_d_r
  refine k_iconst (v := 1) X dX11_layNight_7 (by decide) ?_
  refine k_isub X dX11_layNight_8 ?_
  refine k_nm (fun z_4 ez_4 => ?_)
  have i_5 : z_4.toInt = z_1.toInt - 1 := in_sub ez_4 iv_3 (show IV 1 1 1 from (by decide)) (by decide) (by decide)
  have iv_6 : IV z_4 (-1) 7 := iz5 i_5 iv_3 (by decide) (by decide)
  refine k_istore_n [(2, .int z_4), (0, .ref h0), (1, .int p0)] X dX11_layNight_9 (by decide) rfl ?_
  refine k_aload_n X dX11_layNight_10 1 rfl ?_
  refine k_get (ci := 11) X inlX11 rfl 22 (by decide) dX11_layNight_11 mw175 0 rfl rfl ?_
  refine k_iconst (v := 0) X dX11_layNight_14 (by decide) ?_
  refine k_iconst (v := 0) X dX11_layNight_15 (by decide) ?_
  refine k_iast [(cO11_i1r1i10r1i2r5i2r12i3r4i2 h0 m_thrown a_tape m_taped m_size m_at m_end m_token m_whole m_nameSize m_fault m_place m_trouble a_letters m_failed m_hasHouse a_r a_fresh a_st a_undone a_kept m_undos m_images a_from a_begin a_motor a_change a_startFrame a_changeFrame a_lostAt a_blackAt a_slips a_leftArc a_died a_arcs m_bestSum m_nearest m_nearestTown a_there a_backAt a_sorted a_parts m_seed1 m_darkNow), (cAI g a_r 311 d_r), (cAI g a_st 44 d_st), (cAI g a_from 8 (upd d_from (0 : Int32).toNatClampNeg 0)), (cAI g a_begin 8 d_begin), (cAI g a_motor 8 d_motor), (cAI g a_change 8 d_change), (cAI g a_startFrame 8 d_startFrame), (cAI g a_changeFrame 8 d_changeFrame), (cAI g a_lostAt 8 d_lostAt), (cAI g a_blackAt 8 d_blackAt), (cAI g a_slips 8 d_slips)] X dX11_layNight_16 3 rfl (by unfold vp_in; decide) rfl ?_
  refine k_aload_n X dX11_layNight_17 1 rfl ?_
  refine k_get (ci := 11) X inlX11 rfl 23 (by decide) dX11_layNight_18 mw176 0 rfl rfl ?_
  refine k_iconst (v := 0) X dX11_layNight_21 (by decide) ?_
  refine k_iconst (v := 0) X dX11_layNight_22 (by decide) ?_
  refine k_iast [(cO11_i1r1i10r1i2r5i2r12i3r4i2 h0 m_thrown a_tape m_taped m_size m_at m_end m_token m_whole m_nameSize m_fault m_place m_trouble a_letters m_failed m_hasHouse a_r a_fresh a_st a_undone a_kept m_undos m_images a_from a_begin a_motor a_change a_startFrame a_changeFrame a_lostAt a_blackAt a_slips a_leftArc a_died a_arcs m_bestSum m_nearest m_nearestTown a_there a_backAt a_sorted a_parts m_seed1 m_darkNow), (cAI g a_r 311 d_r), (cAI g a_st 44 d_st), (cAI g a_from 8 (upd d_from (0 : Int32).toNatClampNeg 0)), (cAI g a_begin 8 (upd d_begin (0 : Int32).toNatClampNeg 0)), (cAI g a_motor 8 d_motor), (cAI g a_change 8 d_change), (cAI g a_startFrame 8 d_startFrame), (cAI g a_changeFrame 8 d_changeFrame), (cAI g a_lostAt 8 d_lostAt), (cAI g a_blackAt 8 d_blackAt), (cAI g a_slips 8 d_slips)] X dX11_layNight_23 4 rfl (by unfold vp_in; decide) rfl ?_
  refine k_aload_n X dX11_layNight_24 1 rfl ?_
  refine k_get (ci := 11) X inlX11 rfl 24 (by decide) dX11_layNight_25 mw177 0 rfl rfl ?_
  refine k_iconst (v := 0) X dX11_layNight_28 (by decide) ?_
  refine k_iconst (v := 0) X dX11_layNight_29 (by decide) ?_
  refine k_iast [(cO11_i1r1i10r1i2r5i2r12i3r4i2 h0 m_thrown a_tape m_taped m_size m_at m_end m_token m_whole m_nameSize m_fault m_place m_trouble a_letters m_failed m_hasHouse a_r a_fresh a_st a_undone a_kept m_undos m_images a_from a_begin a_motor a_change a_startFrame a_changeFrame a_lostAt a_blackAt a_slips a_leftArc a_died a_arcs m_bestSum m_nearest m_nearestTown a_there a_backAt a_sorted a_parts m_seed1 m_darkNow), (cAI g a_r 311 d_r), (cAI g a_st 44 d_st), (cAI g a_from 8 (upd d_from (0 : Int32).toNatClampNeg 0)), (cAI g a_begin 8 (upd d_begin (0 : Int32).toNatClampNeg 0)), (cAI g a_motor 8 (upd d_motor (0 : Int32).toNatClampNeg 0)), (cAI g a_change 8 d_change), (cAI g a_startFrame 8 d_startFrame), (cAI g a_changeFrame 8 d_changeFrame), (cAI g a_lostAt 8 d_lostAt), (cAI g a_blackAt 8 d_blackAt), (cAI g a_slips 8 d_slips)] X dX11_layNight_30 5 rfl (by unfold vp_in; decide) rfl ?_
  refine k_aload_n X dX11_layNight_31 1 rfl ?_
  refine k_get (ci := 11) X inlX11 rfl 28 (by decide) dX11_layNight_32 mw181 0 rfl rfl ?_
  refine k_iconst (v := 0) X dX11_layNight_35 (by decide) ?_
  refine k_iconst (v := 0) X dX11_layNight_36 (by decide) ?_
  refine k_iast [(cO11_i1r1i10r1i2r5i2r12i3r4i2 h0 m_thrown a_tape m_taped m_size m_at m_end m_token m_whole m_nameSize m_fault m_place m_trouble a_letters m_failed m_hasHouse a_r a_fresh a_st a_undone a_kept m_undos m_images a_from a_begin a_motor a_change a_startFrame a_changeFrame a_lostAt a_blackAt a_slips a_leftArc a_died a_arcs m_bestSum m_nearest m_nearestTown a_there a_backAt a_sorted a_parts m_seed1 m_darkNow), (cAI g a_r 311 d_r), (cAI g a_st 44 d_st), (cAI g a_from 8 (upd d_from (0 : Int32).toNatClampNeg 0)), (cAI g a_begin 8 (upd d_begin (0 : Int32).toNatClampNeg 0)), (cAI g a_motor 8 (upd d_motor (0 : Int32).toNatClampNeg 0)), (cAI g a_change 8 d_change), (cAI g a_startFrame 8 d_startFrame), (cAI g a_changeFrame 8 d_changeFrame), (cAI g a_lostAt 8 (upd d_lostAt (0 : Int32).toNatClampNeg 0)), (cAI g a_blackAt 8 d_blackAt), (cAI g a_slips 8 d_slips)] X dX11_layNight_37 9 rfl (by unfold vp_in; decide) rfl ?_
  refine k_aload_n X dX11_layNight_38 1 rfl ?_
  refine k_get (ci := 11) X inlX11 rfl 29 (by decide) dX11_layNight_39 mw182 0 rfl rfl ?_
  refine k_iconst (v := 0) X dX11_layNight_42 (by decide) ?_
  refine k_iconst (v := 0) X dX11_layNight_43 (by decide) ?_
  refine k_iast [(cO11_i1r1i10r1i2r5i2r12i3r4i2 h0 m_thrown a_tape m_taped m_size m_at m_end m_token m_whole m_nameSize m_fault m_place m_trouble a_letters m_failed m_hasHouse a_r a_fresh a_st a_undone a_kept m_undos m_images a_from a_begin a_motor a_change a_startFrame a_changeFrame a_lostAt a_blackAt a_slips a_leftArc a_died a_arcs m_bestSum m_nearest m_nearestTown a_there a_backAt a_sorted a_parts m_seed1 m_darkNow), (cAI g a_r 311 d_r), (cAI g a_st 44 d_st), (cAI g a_from 8 (upd d_from (0 : Int32).toNatClampNeg 0)), (cAI g a_begin 8 (upd d_begin (0 : Int32).toNatClampNeg 0)), (cAI g a_motor 8 (upd d_motor (0 : Int32).toNatClampNeg 0)), (cAI g a_change 8 d_change), (cAI g a_startFrame 8 d_startFrame), (cAI g a_changeFrame 8 d_changeFrame), (cAI g a_lostAt 8 (upd d_lostAt (0 : Int32).toNatClampNeg 0)), (cAI g a_blackAt 8 (upd d_blackAt (0 : Int32).toNatClampNeg 0)), (cAI g a_slips 8 d_slips)] X dX11_layNight_44 10 rfl (by unfold vp_in; decide) rfl ?_
  refine k_iconst (v := 0) X dX11_layNight_45 (by decide) ?_
  refine k_istore_n [(3, .int 0), (2, .int z_4), (0, .ref h0), (1, .int p0)] X dX11_layNight_46 (by decide) rfl ?_
  refine (fun hL : ∀ (nn_24 : Nat) (uf_12 : Nat → Int32) (uf_13 : Nat → Int32) (uf_14 : Nat → Int32) (uf_15 : Nat → Int32) (uf_16 : Nat → Int32) (uf_17 : Nat → Int32) (uf_18 : Nat → Int32) (uf_19 : Nat → Int32) (u_20 : Int32), (z_4.toInt + 1 - u_20.toInt).toNat = nn_24 → (IV u_20 0 8) → (ntA d_r d_st sl p0 z_4 u_20 uf_12 uf_14) → (ntB d_r d_st sl p0 z_4 u_20 uf_16 uf_12) → Wk p l e _ s m args below meth c _ A g _ _ _ [(cO11_i1r1i10r1i2r5i2r12i3r4i2 h0 m_thrown a_tape m_taped m_size m_at m_end m_token m_whole m_nameSize m_fault m_place m_trouble a_letters m_failed m_hasHouse a_r a_fresh a_st a_undone a_kept m_undos m_images a_from a_begin a_motor a_change a_startFrame a_changeFrame a_lostAt a_blackAt a_slips a_leftArc a_died a_arcs m_bestSum m_nearest m_nearestTown a_there a_backAt a_sorted a_parts m_seed1 m_darkNow), (cAI g a_r 311 d_r), (cAI g a_st 44 d_st), (cAI g a_from 8 uf_16), (cAI g a_begin 8 uf_12), (cAI g a_motor 8 uf_18), (cAI g a_change 8 uf_14), (cAI g a_startFrame 8 uf_19), (cAI g a_changeFrame 8 uf_15), (cAI g a_lostAt 8 uf_17), (cAI g a_blackAt 8 uf_13), (cAI g a_slips 8 d_slips)] [(3, .int u_20), (2, .int z_4), (0, .ref h0), (1, .int p0)] 47 [] => hL _ ((upd d_begin (0 : Int32).toNatClampNeg 0)) ((upd d_blackAt (0 : Int32).toNatClampNeg 0)) d_change d_changeFrame ((upd d_from (0 : Int32).toNatClampNeg 0)) ((upd d_lostAt (0 : Int32).toNatClampNeg 0)) ((upd d_motor (0 : Int32).toNatClampNeg 0)) d_startFrame 0 rfl (iv_w (show IV 0 0 0 from (by decide)) (by decide) (by decide)) (fun j q => absurd q (by rw [zI]; omega)) (fun _ => ⟨rfl, rfl⟩)) ?_
  refine fun nn_24 => Nat.strongRecOn nn_24 (fun nn_24 ih_26 => ?_)
  intro uf_12 uf_13 uf_14 uf_15 uf_16 uf_17 uf_18 uf_19 u_20 hm_25 hv_21 hA_22 hB_23
  refine k_iload_n X dX11_layNight_47 0 rfl ?_
  refine k_iload_n X dX11_layNight_48 1 rfl ?_
  refine k_ic_gt 302 X dX11_layNight_49 (by decide) (fun h_27 => ?_) (fun h_27 => ?_)
  · skip
    have j_28 : z_4.toInt < u_20.toInt := iv_lt h_27
    exact k_vret X hr dX11_layNight_302 (Nat.le_of_ble_eq_true rfl) (Nat.le_of_ble_eq_true rfl) [0, 1, 2, 3, 4, 5, 6, 7, 8, 9, 10, 11] (by decide) rfl rfl ⟨uf_12, uf_13, uf_14, uf_15, uf_16, uf_17, uf_18, uf_19, (by intro j q; have hh := hA_22 j (by omega); rw [show z_4 = d_r 12 - 1 from (by rw [ez_4, ez_1]; rfl)] at hh; exact hh), rfl⟩
  · skip
    have j_29 : u_20.toInt ≤ z_4.toInt := iv_nlt h_27
    have iv_30 : IV u_20 0 7 := iv_leL (iv_nlt h_27) hv_21 iv_6 (by decide)
    have iv_31 : IV z_4 0 7 := iv_leR (iv_nlt h_27) hv_21 iv_6 (by decide)
    have iv_32 : IV z_1 1 8 := by have := iv_3; have := iv_31; rw [IV]; omega
    refine k_aload_n X dX11_layNight_52 2 rfl ?_
    refine k_iload_n X dX11_layNight_53 0 rfl ?_
    refine k_callVI (n := 1) (As := [.int u_20]) (st := []) X [(cO11_i1r1i10r1i2r5i2r12i3r4i2 h0 m_thrown a_tape m_taped m_size m_at m_end m_token m_whole m_nameSize m_fault m_place m_trouble a_letters m_failed m_hasHouse a_r a_fresh a_st a_undone a_kept m_undos m_images a_from a_begin a_motor a_change a_startFrame a_changeFrame a_lostAt a_blackAt a_slips a_leftArc a_died a_arcs m_bestSum m_nearest m_nearestTown a_there a_backAt a_sorted a_parts m_seed1 m_darkNow), (cAI g a_r 311 d_r), (cAI g a_st 44 d_st)] [(cAI g a_from 8 uf_16), (cAI g a_begin 8 uf_12), (cAI g a_motor 8 uf_18), (cAI g a_change 8 uf_14), (cAI g a_startFrame 8 uf_19), (cAI g a_changeFrame 8 uf_15), (cAI g a_lostAt 8 uf_17), (cAI g a_blackAt 8 uf_13), (cAI g a_slips 8 d_slips)] [0, 1, 2] [3, 4, 5, 6, 7, 8, 9, 10, 11] (m_framesAtE l g h0 u_20 m_thrown a_tape m_taped m_size m_at m_end m_token m_whole m_nameSize m_fault m_place m_trouble a_letters m_failed m_hasHouse a_r a_fresh a_st a_undone a_kept m_undos m_images a_from a_begin a_motor a_change a_startFrame a_changeFrame a_lostAt a_blackAt a_slips a_leftArc a_died a_arcs m_bestSum m_nearest m_nearestTown a_there a_backAt a_sorted a_parts m_seed1 m_darkNow d_r d_st (iv_w iv_30 (by decide) (by decide)) hp_d_r) dX11_layNight_54 mw823 mw824 mw825 mw5 mw826 rfl 11 rfl rfl 0 _ rfl yk_yX11_framesAt_1 rfl (Nat.le_of_ble_eq_true rfl) (Nat.le_of_ble_eq_true rfl) (Nat.le_of_ble_eq_true rfl) (Nat.le_of_ble_eq_true rfl) (Nat.le_of_ble_eq_true rfl) rfl rfl (by decide +kernel) rfl (by decide +kernel) (by decide +kernel) ?_
    rintro r_33 w ⟨hq_34, rfl⟩
    refine k_ws [(cAI g a_from 8 uf_16), (cAI g a_begin 8 uf_12), (cAI g a_motor 8 uf_18), (cAI g a_change 8 uf_14), (cAI g a_startFrame 8 uf_19), (cAI g a_changeFrame 8 uf_15), (cAI g a_lostAt 8 uf_17), (cAI g a_blackAt 8 uf_13), (cAI g a_slips 8 d_slips), (cO11_i1r1i10r1i2r5i2r12i3r4i2 h0 m_thrown a_tape m_taped m_size m_at m_end m_token m_whole m_nameSize m_fault m_place m_trouble a_letters m_failed m_hasHouse a_r a_fresh a_st a_undone a_kept m_undos m_images a_from a_begin a_motor a_change a_startFrame a_changeFrame a_lostAt a_blackAt a_slips a_leftArc a_died a_arcs m_bestSum m_nearest m_nearestTown a_there a_backAt a_sorted a_parts m_seed1 m_darkNow), (cAI g a_r 311 d_r), (cAI g a_st 44 d_st)] rfl ?_
    refine k_istore [(4, .int r_33), (3, .int u_20), (2, .int z_4), (0, .ref h0), (1, .int p0)] X dX11_layNight_57 (by decide) rfl ?_
    refine k_aload_n X dX11_layNight_59 3 rfl ?_
    refine k_get (ci := 11) X inlX11 rfl 26 (by decide) dX11_layNight_60 mw179 9 rfl rfl ?_
    refine k_iload_n X dX11_layNight_63 1 rfl ?_
    refine k_bipush (v := -2) X dX11_layNight_64 (by decide) ?_
    refine k_iast [(cAI g a_from 8 uf_16), (cAI g a_begin 8 uf_12), (cAI g a_motor 8 uf_18), (cAI g a_change 8 uf_14), (cAI g a_startFrame 8 (upd uf_19 (u_20 : Int32).toNatClampNeg (-2))), (cAI g a_changeFrame 8 uf_15), (cAI g a_lostAt 8 uf_17), (cAI g a_blackAt 8 uf_13), (cAI g a_slips 8 d_slips), (cO11_i1r1i10r1i2r5i2r12i3r4i2 h0 m_thrown a_tape m_taped m_size m_at m_end m_token m_whole m_nameSize m_fault m_place m_trouble a_letters m_failed m_hasHouse a_r a_fresh a_st a_undone a_kept m_undos m_images a_from a_begin a_motor a_change a_startFrame a_changeFrame a_lostAt a_blackAt a_slips a_leftArc a_died a_arcs m_bestSum m_nearest m_nearestTown a_there a_backAt a_sorted a_parts m_seed1 m_darkNow), (cAI g a_r 311 d_r), (cAI g a_st 44 d_st)] X dX11_layNight_66 4 rfl (iv_in iv_30 (by decide) (by decide)) rfl ?_
    refine k_aload_n X dX11_layNight_67 3 rfl ?_
    refine k_iload_n X dX11_layNight_68 1 rfl ?_
    refine k_callVI (n := 1) (As := [.int u_20]) (st := []) X [(cO11_i1r1i10r1i2r5i2r12i3r4i2 h0 m_thrown a_tape m_taped m_size m_at m_end m_token m_whole m_nameSize m_fault m_place m_trouble a_letters m_failed m_hasHouse a_r a_fresh a_st a_undone a_kept m_undos m_images a_from a_begin a_motor a_change a_startFrame a_changeFrame a_lostAt a_blackAt a_slips a_leftArc a_died a_arcs m_bestSum m_nearest m_nearestTown a_there a_backAt a_sorted a_parts m_seed1 m_darkNow), (cAI g a_r 311 d_r), (cAI g a_st 44 d_st), (cAI g a_from 8 uf_16)] [(cAI g a_begin 8 uf_12), (cAI g a_motor 8 uf_18), (cAI g a_change 8 uf_14), (cAI g a_startFrame 8 (upd uf_19 (u_20 : Int32).toNatClampNeg (-2))), (cAI g a_changeFrame 8 uf_15), (cAI g a_lostAt 8 uf_17), (cAI g a_blackAt 8 uf_13), (cAI g a_slips 8 d_slips)] [9, 10, 11, 0] [1, 2, 3, 4, 5, 6, 7, 8] (m_isGoneE l g h0 u_20 m_thrown a_tape m_taped m_size m_at m_end m_token m_whole m_nameSize m_fault m_place m_trouble a_letters m_failed m_hasHouse a_r a_fresh a_st a_undone a_kept m_undos m_images a_from a_begin a_motor a_change a_startFrame a_changeFrame a_lostAt a_blackAt a_slips a_leftArc a_died a_arcs m_bestSum m_nearest m_nearestTown a_there a_backAt a_sorted a_parts m_seed1 m_darkNow d_r d_st uf_16 (iv_w iv_30 (by decide) (by decide)) hp_d_r) dX11_layNight_69 mw827 mw828 mw829 mw5 mw830 rfl 11 rfl rfl 0 _ rfl yk_yX11_isGone_1 rfl (Nat.le_of_ble_eq_true rfl) (Nat.le_of_ble_eq_true rfl) (Nat.le_of_ble_eq_true rfl) (Nat.le_of_ble_eq_true rfl) (Nat.le_of_ble_eq_true rfl) rfl rfl (by decide +kernel) rfl (by decide +kernel) (by decide +kernel) ?_
    rintro r_36 w ⟨iv_37, hq_38, rfl⟩
    refine k_ws [(cAI g a_begin 8 uf_12), (cAI g a_motor 8 uf_18), (cAI g a_change 8 uf_14), (cAI g a_startFrame 8 (upd uf_19 (u_20 : Int32).toNatClampNeg (-2))), (cAI g a_changeFrame 8 uf_15), (cAI g a_lostAt 8 uf_17), (cAI g a_blackAt 8 uf_13), (cAI g a_slips 8 d_slips), (cO11_i1r1i10r1i2r5i2r12i3r4i2 h0 m_thrown a_tape m_taped m_size m_at m_end m_token m_whole m_nameSize m_fault m_place m_trouble a_letters m_failed m_hasHouse a_r a_fresh a_st a_undone a_kept m_undos m_images a_from a_begin a_motor a_change a_startFrame a_changeFrame a_lostAt a_blackAt a_slips a_leftArc a_died a_arcs m_bestSum m_nearest m_nearestTown a_there a_backAt a_sorted a_parts m_seed1 m_darkNow), (cAI g a_r 311 d_r), (cAI g a_st 44 d_st), (cAI g a_from 8 uf_16)] rfl ?_
    refine k_if_eq 129 X dX11_layNight_72 (by decide) (fun h_39 => ?_) (fun h_39 => ?_)
    · skip
      have iv_40 : IV r_36 0 0 := iv_meet iv_37 (iv_e h_39 (show IV 0 0 0 from (by decide))) (by decide) (by decide)
      refine k_aload_n X dX11_layNight_129 3 rfl ?_
      refine k_get (ci := 11) X inlX11 rfl 27 (by decide) dX11_layNight_130 mw180 8 rfl rfl ?_
      refine k_iload_n X dX11_layNight_133 1 rfl ?_
      refine k_iload X dX11_layNight_134 0 rfl ?_
      refine k_iast [(cAI g a_begin 8 uf_12), (cAI g a_motor 8 uf_18), (cAI g a_change 8 uf_14), (cAI g a_startFrame 8 (upd uf_19 (u_20 : Int32).toNatClampNeg (-2))), (cAI g a_changeFrame 8 (upd uf_15 (u_20 : Int32).toNatClampNeg r_33)), (cAI g a_lostAt 8 uf_17), (cAI g a_blackAt 8 uf_13), (cAI g a_slips 8 d_slips), (cO11_i1r1i10r1i2r5i2r12i3r4i2 h0 m_thrown a_tape m_taped m_size m_at m_end m_token m_whole m_nameSize m_fault m_place m_trouble a_letters m_failed m_hasHouse a_r a_fresh a_st a_undone a_kept m_undos m_images a_from a_begin a_motor a_change a_startFrame a_changeFrame a_lostAt a_blackAt a_slips a_leftArc a_died a_arcs m_bestSum m_nearest m_nearestTown a_there a_backAt a_sorted a_parts m_seed1 m_darkNow), (cAI g a_r 311 d_r), (cAI g a_st 44 d_st), (cAI g a_from 8 uf_16)] X dX11_layNight_136 4 rfl (iv_in iv_30 (by decide) (by decide)) rfl ?_
      refine k_iload_n X dX11_layNight_137 1 rfl ?_
      refine k_iload_n X dX11_layNight_138 2 rfl ?_
      refine k_ic_ge 201 X dX11_layNight_139 (by decide) (fun h_42 => ?_) (fun h_42 => ?_)
      · skip
        have j_43 : z_4.toInt ≤ u_20.toInt := iv_le h_42
        refine k_aload_n X dX11_layNight_201 3 rfl ?_
        refine k_get (ci := 11) X inlX11 rfl 25 (by decide) dX11_layNight_202 mw178 8 rfl rfl ?_
        refine k_iload_n X dX11_layNight_205 1 rfl ?_
        refine k_aload_n X dX11_layNight_206 3 rfl ?_
        refine k_get (ci := 11) X inlX11 rfl 23 (by decide) dX11_layNight_207 mw176 8 rfl rfl ?_
        refine k_iload_n X dX11_layNight_210 1 rfl ?_
        refine k_iald X dX11_layNight_211 0 rfl (iv_in iv_30 (by decide) (by decide)) ?_
        refine k_nm (fun z_44 ez_44 => ?_)
        refine k_aload_n X dX11_layNight_212 3 rfl ?_
        refine k_get (ci := 11) X inlX11 rfl 27 (by decide) dX11_layNight_213 mw180 8 rfl rfl ?_
        refine k_iload_n X dX11_layNight_216 1 rfl ?_
        refine k_iald X dX11_layNight_217 4 rfl (iv_in iv_30 (by decide) (by decide)) ?_
        refine k_to r_33 upd_at ?_
        refine k_iadd X dX11_layNight_218 ?_
        refine k_nm (fun z_45 ez_45 => ?_)
        refine k_aload_n X dX11_layNight_219 3 rfl ?_
        refine k_get (ci := 11) X inlX11 rfl 22 (by decide) dX11_layNight_220 mw175 8 rfl rfl ?_
        refine k_iload_n X dX11_layNight_223 1 rfl ?_
        refine k_iald X dX11_layNight_224 11 rfl (iv_in iv_30 (by decide) (by decide)) ?_
        refine k_nm (fun z_47 ez_47 => ?_)
        refine k_isub X dX11_layNight_225 ?_
        refine k_nm (fun z_48 ez_48 => ?_)
        refine k_iast [(cAI g a_begin 8 uf_12), (cAI g a_motor 8 uf_18), (cAI g a_change 8 (upd uf_14 (u_20 : Int32).toNatClampNeg z_48)), (cAI g a_startFrame 8 (upd uf_19 (u_20 : Int32).toNatClampNeg (-2))), (cAI g a_changeFrame 8 (upd uf_15 (u_20 : Int32).toNatClampNeg r_33)), (cAI g a_lostAt 8 uf_17), (cAI g a_blackAt 8 uf_13), (cAI g a_slips 8 d_slips), (cO11_i1r1i10r1i2r5i2r12i3r4i2 h0 m_thrown a_tape m_taped m_size m_at m_end m_token m_whole m_nameSize m_fault m_place m_trouble a_letters m_failed m_hasHouse a_r a_fresh a_st a_undone a_kept m_undos m_images a_from a_begin a_motor a_change a_startFrame a_changeFrame a_lostAt a_blackAt a_slips a_leftArc a_died a_arcs m_bestSum m_nearest m_nearestTown a_there a_backAt a_sorted a_parts m_seed1 m_darkNow), (cAI g a_r 311 d_r), (cAI g a_st 44 d_st), (cAI g a_from 8 uf_16)] X dX11_layNight_226 2 rfl (iv_in iv_30 (by decide) (by decide)) rfl ?_
        refine k_iload_n X dX11_layNight_227 1 rfl ?_
        refine k_iload_n X dX11_layNight_228 2 rfl ?_
        refine k_ic_ge 296 X dX11_layNight_229 (by decide) (fun h_51 => ?_) (fun h_51 => ?_)
        · skip
          have j_52 : z_4.toInt ≤ u_20.toInt := iv_le h_51
          obtain ⟨z_53, ez_53⟩ : ∃ y : Int32, u_20 + Int32.ofInt 1 = y := ⟨_, rfl⟩
          refine k_iinc z_53 [(3, .int z_53), (4, .int r_33), (2, .int z_4), (0, .ref h0), (1, .int p0)] 1 X dX11_layNight_296 rfl ez_53 (by decide) rfl ?_
          have i_54 : z_53.toInt = u_20.toInt + 1 := in_inc ez_53 (by decide) iv_30 (by decide) (by decide)
          have iv_55 : IV z_53 1 8 := iz1 i_54 iv_30 (by decide) (by decide)
          refine k_goto 47 X dX11_layNight_299 (by decide) ?_
          refine k_lv [(3, .int z_53), (2, .int z_4), (0, .ref h0), (1, .int p0)] [0, 2, 3, 4] rfl ?_
          refine k_sub [(cO11_i1r1i10r1i2r5i2r12i3r4i2 h0 m_thrown a_tape m_taped m_size m_at m_end m_token m_whole m_nameSize m_fault m_place m_trouble a_letters m_failed m_hasHouse a_r a_fresh a_st a_undone a_kept m_undos m_images a_from a_begin a_motor a_change a_startFrame a_changeFrame a_lostAt a_blackAt a_slips a_leftArc a_died a_arcs m_bestSum m_nearest m_nearestTown a_there a_backAt a_sorted a_parts m_seed1 m_darkNow), (cAI g a_r 311 d_r), (cAI g a_st 44 d_st), (cAI g a_from 8 uf_16), (cAI g a_begin 8 uf_12), (cAI g a_motor 8 uf_18), (cAI g a_change 8 (upd uf_14 (u_20 : Int32).toNatClampNeg z_48)), (cAI g a_startFrame 8 (upd uf_19 (u_20 : Int32).toNatClampNeg (-2))), (cAI g a_changeFrame 8 (upd uf_15 (u_20 : Int32).toNatClampNeg r_33)), (cAI g a_lostAt 8 uf_17), (cAI g a_blackAt 8 uf_13), (cAI g a_slips 8 d_slips)] [8, 9, 10, 11, 0, 1, 2, 3, 4, 5, 6, 7] rfl (by decide) rfl ?_
          exact ih_26 _ (by omega) uf_12 uf_13 ((upd uf_14 (u_20 : Int32).toNatClampNeg z_48)) ((upd uf_15 (u_20 : Int32).toNatClampNeg r_33)) uf_16 uf_17 uf_18 ((upd uf_19 (u_20 : Int32).toNatClampNeg (-2))) z_53 rfl (iv_w iv_55 (by decide) (by decide)) (nt_a hA_22 hB_23 (by omega) (by omega) (by omega) ez_47 ez_44 (by first | (exfalso; omega) | exact ch_g (by assumption) (by assumption) | exact ch_l (by assumption) (by assumption) (by assumption) (by assumption) (by assumption) (by assumption) (by assumption) | exact ch_n (by assumption) (by assumption) (by assumption) (by assumption) (by assumption) (by assumption) (by assumption) (by assumption) (by assumption) (by assumption) hr_0 (iv_w iv_30 (by decide) (by decide)) (by assumption) (by assumption) (by assumption) (by assumption) (by assumption) (by assumption)) (fun j _ => rfl)) (fun q => absurd q (by omega))
        · skip
          have j_56 : u_20.toInt < z_4.toInt := iv_nle h_51
          have iv_57 : IV u_20 0 6 := iv_ltL (iv_nle h_51) iv_30 iv_31 (by decide)
          have iv_58 : IV z_4 1 7 := iv_ltR (iv_nle h_51) iv_30 iv_31 (by decide)
          have iv_59 : IV z_1 2 8 := by have := iv_32; have := iv_58; rw [IV]; omega
          refine k_aload_n X dX11_layNight_232 3 rfl ?_
          refine k_iload_n X dX11_layNight_233 1 rfl ?_
          refine k_aload_n X dX11_layNight_234 3 rfl ?_
          refine k_get (ci := 11) X inlX11 rfl 23 (by decide) dX11_layNight_235 mw176 8 rfl rfl ?_
          refine k_iload_n X dX11_layNight_238 1 rfl ?_
          refine k_iald X dX11_layNight_239 0 rfl (iv_in iv_57 (by decide) (by decide)) ?_
          refine k_to z_44 ez_44.symm ?_
          refine k_aload_n X dX11_layNight_240 3 rfl ?_
          refine k_get (ci := 11) X inlX11 rfl 26 (by decide) dX11_layNight_241 mw179 8 rfl rfl ?_
          refine k_iload_n X dX11_layNight_244 1 rfl ?_
          refine k_iald X dX11_layNight_245 3 rfl (iv_in iv_57 (by decide) (by decide)) ?_
          refine k_to (-2) upd_at ?_
          refine k_iadd X dX11_layNight_246 ?_
          refine k_nm (fun z_60 ez_60 => ?_)
          refine k_aload_n X dX11_layNight_247 3 rfl ?_
          refine k_get (ci := 11) X inlX11 rfl 22 (by decide) dX11_layNight_248 mw175 8 rfl rfl ?_
          refine k_iload_n X dX11_layNight_251 1 rfl ?_
          refine k_iald X dX11_layNight_252 11 rfl (iv_in iv_57 (by decide) (by decide)) ?_
          refine k_to z_47 ez_47.symm ?_
          refine k_isub X dX11_layNight_253 ?_
          refine k_nm (fun z_62 ez_62 => ?_)
          refine k_aload_n X dX11_layNight_254 3 rfl ?_
          refine k_get (ci := 11) X inlX11 rfl 25 (by decide) dX11_layNight_255 mw178 8 rfl rfl ?_
          refine k_iload_n X dX11_layNight_258 1 rfl ?_
          refine k_iald X dX11_layNight_259 2 rfl (iv_in iv_57 (by decide) (by decide)) ?_
          refine k_to z_48 upd_at ?_
          refine k_aload_n X dX11_layNight_260 3 rfl ?_
          refine k_get (ci := 11) X inlX11 rfl 27 (by decide) dX11_layNight_261 mw180 8 rfl rfl ?_
          refine k_iload_n X dX11_layNight_264 1 rfl ?_
          refine k_iald X dX11_layNight_265 4 rfl (iv_in iv_57 (by decide) (by decide)) ?_
          refine k_to r_33 upd_at ?_
          refine k_aload_n X dX11_layNight_266 3 rfl ?_
          refine k_get (ci := 11) X inlX11 rfl 26 (by decide) dX11_layNight_267 mw179 8 rfl rfl ?_
          refine k_iload_n X dX11_layNight_270 1 rfl ?_
          refine k_iald X dX11_layNight_271 3 rfl (iv_in iv_57 (by decide) (by decide)) ?_
          refine k_to (-2) upd_at ?_
          refine k_isub X dX11_layNight_272 ?_
          refine k_nm (fun z_64 ez_64 => ?_)
          refine k_aload_n X dX11_layNight_273 3 rfl ?_
          refine k_get (ci := 11) X inlX11 rfl 15 (by decide) dX11_layNight_274 mw170 8 rfl rfl ?_
          refine k_iconst (v := 1) X dX11_layNight_277 (by decide) ?_
          refine k_iald X dX11_layNight_278 9 rfl (by unfold vp_in; decide) ?_
          refine k_nm (fun z_66 ez_66 => ?_)
          refine k_isub X dX11_layNight_279 ?_
          refine k_nm (fun z_67 ez_67 => ?_)
          refine k_aload_n X dX11_layNight_280 3 rfl ?_
          refine k_get (ci := 11) X inlX11 rfl 17 (by decide) dX11_layNight_281 mw172 8 rfl rfl ?_
          refine k_bipush (v := 34) X dX11_layNight_284 (by decide) ?_
          refine k_iload_n X dX11_layNight_286 1 rfl ?_
          refine k_iadd X dX11_layNight_287 ?_
          refine k_nm (fun z_69 ez_69 => ?_)
          have i_70 : z_69.toInt = 34 + u_20.toInt := in_add ez_69 (show IV 34 34 34 from (by decide)) iv_57 (by decide) (by decide)
          have iv_71 : IV z_69 34 40 := iz2 i_70 iv_57 (by decide) (by decide)
          refine k_iconst (v := 1) X dX11_layNight_288 (by decide) ?_
          refine k_iadd X dX11_layNight_289 ?_
          refine k_nm (fun z_72 ez_72 => ?_)
          have i_73 : z_72.toInt = z_69.toInt + 1 := in_add ez_72 iv_71 (show IV 1 1 1 from (by decide)) (by decide) (by decide)
          have iv_74 : IV z_72 35 41 := iz1 i_73 iv_71 (by decide) (by decide)
          refine k_iald X dX11_layNight_290 10 rfl (iv_in iv_74 (by decide) (by decide)) ?_
          refine k_nm (fun z_75 ez_75 => ?_)
          refine k_isub X dX11_layNight_291 ?_
          refine k_nm (fun z_76 ez_76 => ?_)
          refine k_iconst (v := 0) X dX11_layNight_292 (by decide) ?_
          refine k_callVV (n := 5) (As := [.int u_20, .int z_62, .int z_48, .int z_76, .int 0]) (st := []) X [(cO11_i1r1i10r1i2r5i2r12i3r4i2 h0 m_thrown a_tape m_taped m_size m_at m_end m_token m_whole m_nameSize m_fault m_place m_trouble a_letters m_failed m_hasHouse a_r a_fresh a_st a_undone a_kept m_undos m_images a_from a_begin a_motor a_change a_startFrame a_changeFrame a_lostAt a_blackAt a_slips a_leftArc a_died a_arcs m_bestSum m_nearest m_nearestTown a_there a_backAt a_sorted a_parts m_seed1 m_darkNow), (cAI g a_from 8 uf_16), (cAI g a_begin 8 uf_12), (cAI g a_motor 8 uf_18), (cAI g a_lostAt 8 uf_17), (cAI g a_blackAt 8 uf_13)] [(cAI g a_change 8 (upd uf_14 (u_20 : Int32).toNatClampNeg z_48)), (cAI g a_startFrame 8 (upd uf_19 (u_20 : Int32).toNatClampNeg (-2))), (cAI g a_changeFrame 8 (upd uf_15 (u_20 : Int32).toNatClampNeg r_33)), (cAI g a_slips 8 d_slips), (cAI g a_r 311 d_r), (cAI g a_st 44 d_st)] [8, 11, 0, 1, 5, 6] [2, 3, 4, 7, 9, 10] (m_followsE l g h0 u_20 z_62 z_48 z_76 0 m_thrown a_tape m_taped m_size m_at m_end m_token m_whole m_nameSize m_fault m_place m_trouble a_letters m_failed m_hasHouse a_r a_fresh a_st a_undone a_kept m_undos m_images a_from a_begin a_motor a_change a_startFrame a_changeFrame a_lostAt a_blackAt a_slips a_leftArc a_died a_arcs m_bestSum m_nearest m_nearestTown a_there a_backAt a_sorted a_parts m_seed1 m_darkNow uf_16 uf_12 uf_18 uf_17 uf_13 (iv_w iv_57 (by decide) (by decide)) (iv_w (show IV 0 0 0 from (by decide)) (by decide) (by decide))) dX11_layNight_293 mw831 mw832 mw833 mw5 mw834 rfl 11 rfl rfl 0 _ rfl yk_yX11_follows_5 rfl (Nat.le_of_ble_eq_true rfl) (Nat.le_of_ble_eq_true rfl) (Nat.le_of_ble_eq_true rfl) (Nat.le_of_ble_eq_true rfl) (Nat.le_of_ble_eq_true rfl) rfl rfl (by decide +kernel) rfl (by decide +kernel) (by decide +kernel) ?_
          rintro w ⟨d_begin2_78, d_blackAt2_79, d_from2_80, d_lostAt2_81, d_motor2_82, hq_84, hq_85, rfl⟩
          refine k_ws [(cAI g a_change 8 (upd uf_14 (u_20 : Int32).toNatClampNeg z_48)), (cAI g a_startFrame 8 (upd uf_19 (u_20 : Int32).toNatClampNeg (-2))), (cAI g a_changeFrame 8 (upd uf_15 (u_20 : Int32).toNatClampNeg r_33)), (cAI g a_slips 8 d_slips), (cAI g a_r 311 d_r), (cAI g a_st 44 d_st), (cO11_i1r1i10r1i2r5i2r12i3r4i2 h0 m_thrown a_tape m_taped m_size m_at m_end m_token m_whole m_nameSize m_fault m_place m_trouble a_letters m_failed m_hasHouse a_r a_fresh a_st a_undone a_kept m_undos m_images a_from a_begin a_motor a_change a_startFrame a_changeFrame a_lostAt a_blackAt a_slips a_leftArc a_died a_arcs m_bestSum m_nearest m_nearestTown a_there a_backAt a_sorted a_parts m_seed1 m_darkNow), (cAI g a_from 8 d_from2_80), (cAI g a_begin 8 d_begin2_78), (cAI g a_motor 8 d_motor2_82), (cAI g a_lostAt 8 d_lostAt2_81), (cAI g a_blackAt 8 d_blackAt2_79)] rfl ?_
          obtain ⟨z_86, ez_86⟩ : ∃ y : Int32, u_20 + Int32.ofInt 1 = y := ⟨_, rfl⟩
          refine k_iinc z_86 [(3, .int z_86), (4, .int r_33), (2, .int z_4), (0, .ref h0), (1, .int p0)] 1 X dX11_layNight_296 rfl ez_86 (by decide) rfl ?_
          have i_87 : z_86.toInt = u_20.toInt + 1 := in_inc ez_86 (by decide) iv_57 (by decide) (by decide)
          have iv_88 : IV z_86 1 7 := iz1 i_87 iv_57 (by decide) (by decide)
          refine k_goto 47 X dX11_layNight_299 (by decide) ?_
          refine k_lv [(3, .int z_86), (2, .int z_4), (0, .ref h0), (1, .int p0)] [0, 2, 3, 4] rfl ?_
          refine k_sub [(cO11_i1r1i10r1i2r5i2r12i3r4i2 h0 m_thrown a_tape m_taped m_size m_at m_end m_token m_whole m_nameSize m_fault m_place m_trouble a_letters m_failed m_hasHouse a_r a_fresh a_st a_undone a_kept m_undos m_images a_from a_begin a_motor a_change a_startFrame a_changeFrame a_lostAt a_blackAt a_slips a_leftArc a_died a_arcs m_bestSum m_nearest m_nearestTown a_there a_backAt a_sorted a_parts m_seed1 m_darkNow), (cAI g a_r 311 d_r), (cAI g a_st 44 d_st), (cAI g a_from 8 d_from2_80), (cAI g a_begin 8 d_begin2_78), (cAI g a_motor 8 d_motor2_82), (cAI g a_change 8 (upd uf_14 (u_20 : Int32).toNatClampNeg z_48)), (cAI g a_startFrame 8 (upd uf_19 (u_20 : Int32).toNatClampNeg (-2))), (cAI g a_changeFrame 8 (upd uf_15 (u_20 : Int32).toNatClampNeg r_33)), (cAI g a_lostAt 8 d_lostAt2_81), (cAI g a_blackAt 8 d_blackAt2_79), (cAI g a_slips 8 d_slips)] [6, 4, 5, 7, 8, 9, 0, 1, 2, 10, 11, 3] rfl (by decide) rfl ?_
          exact ih_26 _ (by omega) d_begin2_78 d_blackAt2_79 ((upd uf_14 (u_20 : Int32).toNatClampNeg z_48)) ((upd uf_15 (u_20 : Int32).toNatClampNeg r_33)) d_from2_80 d_lostAt2_81 d_motor2_82 ((upd uf_19 (u_20 : Int32).toNatClampNeg (-2))) z_86 rfl (iv_w iv_88 (by decide) (by decide)) (nt_a hA_22 hB_23 (by omega) (by omega) (by omega) ez_47 ez_44 (by first | (exfalso; omega) | exact ch_g (by assumption) (by assumption) | exact ch_l (by assumption) (by assumption) (by assumption) (by assumption) (by assumption) (by assumption) (by assumption) | exact ch_n (by assumption) (by assumption) (by assumption) (by assumption) (by assumption) (by assumption) (by assumption) (by assumption) (by assumption) (by assumption) hr_0 (iv_w iv_57 (by decide) (by decide)) (by assumption) (by assumption) (by assumption) (by assumption) (by assumption) (by assumption)) (by rw [hq_85]; exact nt_kb (by rw [addI (by rw [oneI]; omega) (by rw [oneI]; omega), oneI]) (by omega))) (by rw [hq_84, hq_85]; exact nt_b hB_23 (by omega) (by omega) (by omega) (by rw [addI (by rw [oneI]; omega) (by rw [oneI]; omega), oneI]) ez_47 ez_44 (by first | (exfalso; omega) | exact nt_g (by assumption) (by assumption) | exact nt_n (by assumption) (by assumption) (by assumption) (by assumption) (by assumption) (by assumption) (by assumption) (by assumption) (by assumption) (by assumption) (by assumption) (by assumption) (by assumption) (by assumption) (by assumption) (by assumption) (by assumption) hr_0 (iv_w iv_57 (by decide) (by decide)) (by assumption) (by assumption) (by assumption) (by assumption) (by assumption)))
      · skip
        have j_89 : u_20.toInt < z_4.toInt := iv_nle h_42
        have iv_90 : IV u_20 0 6 := iv_ltL (iv_nle h_42) iv_30 iv_31 (by decide)
        have iv_91 : IV z_4 1 7 := iv_ltR (iv_nle h_42) iv_30 iv_31 (by decide)
        have iv_92 : IV z_1 2 8 := by have := iv_32; have := iv_91; rw [IV]; omega
        refine k_aload_n X dX11_layNight_142 3 rfl ?_
        refine k_iload_n X dX11_layNight_143 4 rfl ?_
        refine k_iload_n X dX11_layNight_144 1 rfl ?_
        refine k_callVI (n := 2) (As := [.int p0, .int u_20]) (st := []) X [(cO11_i1r1i10r1i2r5i2r12i3r4i2 h0 m_thrown a_tape m_taped m_size m_at m_end m_token m_whole m_nameSize m_fault m_place m_trouble a_letters m_failed m_hasHouse a_r a_fresh a_st a_undone a_kept m_undos m_images a_from a_begin a_motor a_change a_startFrame a_changeFrame a_lostAt a_blackAt a_slips a_leftArc a_died a_arcs m_bestSum m_nearest m_nearestTown a_there a_backAt a_sorted a_parts m_seed1 m_darkNow), (cAI g a_r 311 d_r), (cAI g a_st 44 d_st)] [(cAI g a_begin 8 uf_12), (cAI g a_motor 8 uf_18), (cAI g a_change 8 uf_14), (cAI g a_startFrame 8 (upd uf_19 (u_20 : Int32).toNatClampNeg (-2))), (cAI g a_changeFrame 8 (upd uf_15 (u_20 : Int32).toNatClampNeg r_33)), (cAI g a_lostAt 8 uf_17), (cAI g a_blackAt 8 uf_13), (cAI g a_slips 8 d_slips), (cAI g a_from 8 uf_16)] [8, 9, 10] [0, 1, 2, 3, 4, 5, 6, 7, 11] (m_believesOfE l g h0 p0 u_20 m_thrown a_tape m_taped m_size m_at m_end m_token m_whole m_nameSize m_fault m_place m_trouble a_letters m_failed m_hasHouse a_r a_fresh a_st a_undone a_kept m_undos m_images a_from a_begin a_motor a_change a_startFrame a_changeFrame a_lostAt a_blackAt a_slips a_leftArc a_died a_arcs m_bestSum m_nearest m_nearestTown a_there a_backAt a_sorted a_parts m_seed1 m_darkNow d_r d_st (iv_w hv_p0 (by decide) (by decide)) (iv_w iv_90 (by decide) (by decide)) hp_d_r) dX11_layNight_145 mw835 mw836 mw837 mw5 mw838 rfl 11 rfl rfl 0 _ rfl yk_yX11_believesOf_2 rfl (Nat.le_of_ble_eq_true rfl) (Nat.le_of_ble_eq_true rfl) (Nat.le_of_ble_eq_true rfl) (Nat.le_of_ble_eq_true rfl) (Nat.le_of_ble_eq_true rfl) rfl rfl (by decide +kernel) rfl (by decide +kernel) (by decide +kernel) ?_
        rintro r_93 w ⟨hq_94, rfl⟩
        refine k_ws [(cAI g a_begin 8 uf_12), (cAI g a_motor 8 uf_18), (cAI g a_change 8 uf_14), (cAI g a_startFrame 8 (upd uf_19 (u_20 : Int32).toNatClampNeg (-2))), (cAI g a_changeFrame 8 (upd uf_15 (u_20 : Int32).toNatClampNeg r_33)), (cAI g a_lostAt 8 uf_17), (cAI g a_blackAt 8 uf_13), (cAI g a_slips 8 d_slips), (cAI g a_from 8 uf_16), (cO11_i1r1i10r1i2r5i2r12i3r4i2 h0 m_thrown a_tape m_taped m_size m_at m_end m_token m_whole m_nameSize m_fault m_place m_trouble a_letters m_failed m_hasHouse a_r a_fresh a_st a_undone a_kept m_undos m_images a_from a_begin a_motor a_change a_startFrame a_changeFrame a_lostAt a_blackAt a_slips a_leftArc a_died a_arcs m_bestSum m_nearest m_nearestTown a_there a_backAt a_sorted a_parts m_seed1 m_darkNow), (cAI g a_r 311 d_r), (cAI g a_st 44 d_st)] rfl ?_
        refine k_aload_n X dX11_layNight_148 3 rfl ?_
        refine k_get (ci := 11) X inlX11 rfl 30 (by decide) dX11_layNight_149 mw183 9 rfl rfl ?_
        refine k_iload_n X dX11_layNight_152 1 rfl ?_
        refine k_iald X dX11_layNight_153 7 rfl (iv_in iv_90 (by decide) (by decide)) ?_
        refine k_nm (fun z_95 ez_95 => ?_)
        refine k_iadd X dX11_layNight_154 ?_
        refine k_nm (fun z_96 ez_96 => ?_)
        refine k_iload X dX11_layNight_155 0 rfl ?_
        refine k_iconst (v := 1) X dX11_layNight_157 (by decide) ?_
        refine k_isub X dX11_layNight_158 ?_
        refine k_nm (fun z_98 ez_98 => ?_)
        refine k_callSI (n := 2) (As := [.int z_96, .int z_98]) (st := []) X [] [(cAI g a_begin 8 uf_12), (cAI g a_motor 8 uf_18), (cAI g a_change 8 uf_14), (cAI g a_startFrame 8 (upd uf_19 (u_20 : Int32).toNatClampNeg (-2))), (cAI g a_changeFrame 8 (upd uf_15 (u_20 : Int32).toNatClampNeg r_33)), (cAI g a_lostAt 8 uf_17), (cAI g a_blackAt 8 uf_13), (cAI g a_slips 8 d_slips), (cAI g a_from 8 uf_16), (cO11_i1r1i10r1i2r5i2r12i3r4i2 h0 m_thrown a_tape m_taped m_size m_at m_end m_token m_whole m_nameSize m_fault m_place m_trouble a_letters m_failed m_hasHouse a_r a_fresh a_st a_undone a_kept m_undos m_images a_from a_begin a_motor a_change a_startFrame a_changeFrame a_lostAt a_blackAt a_slips a_leftArc a_died a_arcs m_bestSum m_nearest m_nearestTown a_there a_backAt a_sorted a_parts m_seed1 m_darkNow), (cAI g a_r 311 d_r), (cAI g a_st 44 d_st)] [] [0, 1, 2, 3, 4, 5, 6, 7, 8, 9, 10, 11] (m_leastE l g z_96 z_98) dX11_layNight_159 mw839 mw840 mw5 mw841 yk_yX11_least_2 rfl (Nat.le_of_ble_eq_true rfl) (Nat.le_of_ble_eq_true rfl) (Nat.le_of_ble_eq_true rfl) (Nat.le_of_ble_eq_true rfl) (Nat.le_of_ble_eq_true rfl) rfl rfl (by decide +kernel) rfl (by decide +kernel) (by decide +kernel) ?_
        rintro r_100 w ⟨hq_101, rfl⟩
        refine k_ws [(cAI g a_begin 8 uf_12), (cAI g a_motor 8 uf_18), (cAI g a_change 8 uf_14), (cAI g a_startFrame 8 (upd uf_19 (u_20 : Int32).toNatClampNeg (-2))), (cAI g a_changeFrame 8 (upd uf_15 (u_20 : Int32).toNatClampNeg r_33)), (cAI g a_lostAt 8 uf_17), (cAI g a_blackAt 8 uf_13), (cAI g a_slips 8 d_slips), (cAI g a_from 8 uf_16), (cO11_i1r1i10r1i2r5i2r12i3r4i2 h0 m_thrown a_tape m_taped m_size m_at m_end m_token m_whole m_nameSize m_fault m_place m_trouble a_letters m_failed m_hasHouse a_r a_fresh a_st a_undone a_kept m_undos m_images a_from a_begin a_motor a_change a_startFrame a_changeFrame a_lostAt a_blackAt a_slips a_leftArc a_died a_arcs m_bestSum m_nearest m_nearestTown a_there a_backAt a_sorted a_parts m_seed1 m_darkNow), (cAI g a_r 311 d_r), (cAI g a_st 44 d_st)] rfl ?_
        refine k_aload_n X dX11_layNight_162 3 rfl ?_
        refine k_get (ci := 11) X inlX11 rfl 22 (by decide) dX11_layNight_163 mw175 9 rfl rfl ?_
        refine k_iload_n X dX11_layNight_166 1 rfl ?_
        refine k_iald X dX11_layNight_167 8 rfl (iv_in iv_90 (by decide) (by decide)) ?_
        refine k_nm (fun z_102 ez_102 => ?_)
        refine k_callSI (n := 2) (As := [.int r_100, .int z_102]) (st := []) X [] [(cAI g a_begin 8 uf_12), (cAI g a_motor 8 uf_18), (cAI g a_change 8 uf_14), (cAI g a_startFrame 8 (upd uf_19 (u_20 : Int32).toNatClampNeg (-2))), (cAI g a_changeFrame 8 (upd uf_15 (u_20 : Int32).toNatClampNeg r_33)), (cAI g a_lostAt 8 uf_17), (cAI g a_blackAt 8 uf_13), (cAI g a_slips 8 d_slips), (cAI g a_from 8 uf_16), (cO11_i1r1i10r1i2r5i2r12i3r4i2 h0 m_thrown a_tape m_taped m_size m_at m_end m_token m_whole m_nameSize m_fault m_place m_trouble a_letters m_failed m_hasHouse a_r a_fresh a_st a_undone a_kept m_undos m_images a_from a_begin a_motor a_change a_startFrame a_changeFrame a_lostAt a_blackAt a_slips a_leftArc a_died a_arcs m_bestSum m_nearest m_nearestTown a_there a_backAt a_sorted a_parts m_seed1 m_darkNow), (cAI g a_r 311 d_r), (cAI g a_st 44 d_st)] [] [0, 1, 2, 3, 4, 5, 6, 7, 8, 9, 10, 11] (m_mostE l g r_100 z_102) dX11_layNight_168 mw842 mw843 mw5 mw844 yk_yX11_most_2 rfl (Nat.le_of_ble_eq_true rfl) (Nat.le_of_ble_eq_true rfl) (Nat.le_of_ble_eq_true rfl) (Nat.le_of_ble_eq_true rfl) (Nat.le_of_ble_eq_true rfl) rfl rfl (by decide +kernel) rfl (by decide +kernel) (by decide +kernel) ?_
        rintro r_103 w ⟨hq_104, rfl⟩
        refine k_ws [(cAI g a_begin 8 uf_12), (cAI g a_motor 8 uf_18), (cAI g a_change 8 uf_14), (cAI g a_startFrame 8 (upd uf_19 (u_20 : Int32).toNatClampNeg (-2))), (cAI g a_changeFrame 8 (upd uf_15 (u_20 : Int32).toNatClampNeg r_33)), (cAI g a_lostAt 8 uf_17), (cAI g a_blackAt 8 uf_13), (cAI g a_slips 8 d_slips), (cAI g a_from 8 uf_16), (cO11_i1r1i10r1i2r5i2r12i3r4i2 h0 m_thrown a_tape m_taped m_size m_at m_end m_token m_whole m_nameSize m_fault m_place m_trouble a_letters m_failed m_hasHouse a_r a_fresh a_st a_undone a_kept m_undos m_images a_from a_begin a_motor a_change a_startFrame a_changeFrame a_lostAt a_blackAt a_slips a_leftArc a_died a_arcs m_bestSum m_nearest m_nearestTown a_there a_backAt a_sorted a_parts m_seed1 m_darkNow), (cAI g a_r 311 d_r), (cAI g a_st 44 d_st)] rfl ?_
        refine k_istore [(5, .int r_103), (4, .int r_33), (3, .int u_20), (2, .int z_4), (0, .ref h0), (1, .int p0)] X dX11_layNight_171 (by decide) rfl ?_
        refine k_aload_n X dX11_layNight_173 4 rfl ?_
        refine k_get (ci := 11) X inlX11 rfl 26 (by decide) dX11_layNight_174 mw179 9 rfl rfl ?_
        refine k_iload_n X dX11_layNight_177 2 rfl ?_
        refine k_iload X dX11_layNight_178 0 rfl ?_
        refine k_iast [(cAI g a_begin 8 uf_12), (cAI g a_motor 8 uf_18), (cAI g a_change 8 uf_14), (cAI g a_startFrame 8 (upd (upd uf_19 (u_20 : Int32).toNatClampNeg (-2)) (u_20 : Int32).toNatClampNeg r_103)), (cAI g a_changeFrame 8 (upd uf_15 (u_20 : Int32).toNatClampNeg r_33)), (cAI g a_lostAt 8 uf_17), (cAI g a_blackAt 8 uf_13), (cAI g a_slips 8 d_slips), (cAI g a_from 8 uf_16), (cO11_i1r1i10r1i2r5i2r12i3r4i2 h0 m_thrown a_tape m_taped m_size m_at m_end m_token m_whole m_nameSize m_fault m_place m_trouble a_letters m_failed m_hasHouse a_r a_fresh a_st a_undone a_kept m_undos m_images a_from a_begin a_motor a_change a_startFrame a_changeFrame a_lostAt a_blackAt a_slips a_leftArc a_died a_arcs m_bestSum m_nearest m_nearestTown a_there a_backAt a_sorted a_parts m_seed1 m_darkNow), (cAI g a_r 311 d_r), (cAI g a_st 44 d_st)] X dX11_layNight_180 3 rfl (iv_in iv_90 (by decide) (by decide)) rfl ?_
        refine k_aload_n X dX11_layNight_181 4 rfl ?_
        refine k_get (ci := 11) X inlX11 rfl 27 (by decide) dX11_layNight_182 mw180 9 rfl rfl ?_
        refine k_iload_n X dX11_layNight_185 2 rfl ?_
        refine k_iload X dX11_layNight_186 0 rfl ?_
        refine k_aload_n X dX11_layNight_188 4 rfl ?_
        refine k_get (ci := 11) X inlX11 rfl 15 (by decide) dX11_layNight_189 mw170 9 rfl rfl ?_
        refine k_iconst (v := 0) X dX11_layNight_192 (by decide) ?_
        refine k_iald X dX11_layNight_193 10 rfl (by unfold vp_in; decide) ?_
        refine k_nm (fun z_106 ez_106 => ?_)
        refine k_iadd X dX11_layNight_194 ?_
        refine k_nm (fun z_107 ez_107 => ?_)
        refine k_iload X dX11_layNight_195 1 rfl ?_
        refine k_callSI (n := 2) (As := [.int z_107, .int r_33]) (st := [.int u_20, .ref a_changeFrame]) X [] [(cAI g a_begin 8 uf_12), (cAI g a_motor 8 uf_18), (cAI g a_change 8 uf_14), (cAI g a_startFrame 8 (upd (upd uf_19 (u_20 : Int32).toNatClampNeg (-2)) (u_20 : Int32).toNatClampNeg r_103)), (cAI g a_changeFrame 8 (upd uf_15 (u_20 : Int32).toNatClampNeg r_33)), (cAI g a_lostAt 8 uf_17), (cAI g a_blackAt 8 uf_13), (cAI g a_slips 8 d_slips), (cAI g a_from 8 uf_16), (cO11_i1r1i10r1i2r5i2r12i3r4i2 h0 m_thrown a_tape m_taped m_size m_at m_end m_token m_whole m_nameSize m_fault m_place m_trouble a_letters m_failed m_hasHouse a_r a_fresh a_st a_undone a_kept m_undos m_images a_from a_begin a_motor a_change a_startFrame a_changeFrame a_lostAt a_blackAt a_slips a_leftArc a_died a_arcs m_bestSum m_nearest m_nearestTown a_there a_backAt a_sorted a_parts m_seed1 m_darkNow), (cAI g a_r 311 d_r), (cAI g a_st 44 d_st)] [] [0, 1, 2, 3, 4, 5, 6, 7, 8, 9, 10, 11] (m_leastE l g z_107 r_33) dX11_layNight_197 mw839 mw840 mw5 mw841 yk_yX11_least_2 rfl (Nat.le_of_ble_eq_true rfl) (Nat.le_of_ble_eq_true rfl) (Nat.le_of_ble_eq_true rfl) (Nat.le_of_ble_eq_true rfl) (Nat.le_of_ble_eq_true rfl) rfl rfl (by decide +kernel) rfl (by decide +kernel) (by decide +kernel) ?_
        rintro r_109 w ⟨hq_110, rfl⟩
        refine k_ws [(cAI g a_begin 8 uf_12), (cAI g a_motor 8 uf_18), (cAI g a_change 8 uf_14), (cAI g a_startFrame 8 (upd (upd uf_19 (u_20 : Int32).toNatClampNeg (-2)) (u_20 : Int32).toNatClampNeg r_103)), (cAI g a_changeFrame 8 (upd uf_15 (u_20 : Int32).toNatClampNeg r_33)), (cAI g a_lostAt 8 uf_17), (cAI g a_blackAt 8 uf_13), (cAI g a_slips 8 d_slips), (cAI g a_from 8 uf_16), (cO11_i1r1i10r1i2r5i2r12i3r4i2 h0 m_thrown a_tape m_taped m_size m_at m_end m_token m_whole m_nameSize m_fault m_place m_trouble a_letters m_failed m_hasHouse a_r a_fresh a_st a_undone a_kept m_undos m_images a_from a_begin a_motor a_change a_startFrame a_changeFrame a_lostAt a_blackAt a_slips a_leftArc a_died a_arcs m_bestSum m_nearest m_nearestTown a_there a_backAt a_sorted a_parts m_seed1 m_darkNow), (cAI g a_r 311 d_r), (cAI g a_st 44 d_st)] rfl ?_
        refine k_iast [(cAI g a_begin 8 uf_12), (cAI g a_motor 8 uf_18), (cAI g a_change 8 uf_14), (cAI g a_startFrame 8 (upd (upd uf_19 (u_20 : Int32).toNatClampNeg (-2)) (u_20 : Int32).toNatClampNeg r_103)), (cAI g a_changeFrame 8 (upd (upd uf_15 (u_20 : Int32).toNatClampNeg r_33) (u_20 : Int32).toNatClampNeg r_109)), (cAI g a_lostAt 8 uf_17), (cAI g a_blackAt 8 uf_13), (cAI g a_slips 8 d_slips), (cAI g a_from 8 uf_16), (cO11_i1r1i10r1i2r5i2r12i3r4i2 h0 m_thrown a_tape m_taped m_size m_at m_end m_token m_whole m_nameSize m_fault m_place m_trouble a_letters m_failed m_hasHouse a_r a_fresh a_st a_undone a_kept m_undos m_images a_from a_begin a_motor a_change a_startFrame a_changeFrame a_lostAt a_blackAt a_slips a_leftArc a_died a_arcs m_bestSum m_nearest m_nearestTown a_there a_backAt a_sorted a_parts m_seed1 m_darkNow), (cAI g a_r 311 d_r), (cAI g a_st 44 d_st)] X dX11_layNight_200 4 rfl (iv_in iv_90 (by decide) (by decide)) rfl ?_
        refine k_aload_n X dX11_layNight_201 4 rfl ?_
        refine k_get (ci := 11) X inlX11 rfl 25 (by decide) dX11_layNight_202 mw178 9 rfl rfl ?_
        refine k_iload_n X dX11_layNight_205 2 rfl ?_
        refine k_aload_n X dX11_layNight_206 4 rfl ?_
        refine k_get (ci := 11) X inlX11 rfl 23 (by decide) dX11_layNight_207 mw176 9 rfl rfl ?_
        refine k_iload_n X dX11_layNight_210 2 rfl ?_
        refine k_iald X dX11_layNight_211 0 rfl (iv_in iv_90 (by decide) (by decide)) ?_
        refine k_nm (fun z_112 ez_112 => ?_)
        refine k_aload_n X dX11_layNight_212 4 rfl ?_
        refine k_get (ci := 11) X inlX11 rfl 27 (by decide) dX11_layNight_213 mw180 9 rfl rfl ?_
        refine k_iload_n X dX11_layNight_216 2 rfl ?_
        refine k_iald X dX11_layNight_217 4 rfl (iv_in iv_90 (by decide) (by decide)) ?_
        refine k_to r_109 upd_at ?_
        refine k_iadd X dX11_layNight_218 ?_
        refine k_nm (fun z_113 ez_113 => ?_)
        refine k_aload_n X dX11_layNight_219 4 rfl ?_
        refine k_get (ci := 11) X inlX11 rfl 22 (by decide) dX11_layNight_220 mw175 9 rfl rfl ?_
        refine k_iload_n X dX11_layNight_223 2 rfl ?_
        refine k_iald X dX11_layNight_224 8 rfl (iv_in iv_90 (by decide) (by decide)) ?_
        refine k_to z_102 ez_102.symm ?_
        refine k_isub X dX11_layNight_225 ?_
        refine k_nm (fun z_115 ez_115 => ?_)
        refine k_iast [(cAI g a_begin 8 uf_12), (cAI g a_motor 8 uf_18), (cAI g a_change 8 (upd uf_14 (u_20 : Int32).toNatClampNeg z_115)), (cAI g a_startFrame 8 (upd (upd uf_19 (u_20 : Int32).toNatClampNeg (-2)) (u_20 : Int32).toNatClampNeg r_103)), (cAI g a_changeFrame 8 (upd (upd uf_15 (u_20 : Int32).toNatClampNeg r_33) (u_20 : Int32).toNatClampNeg r_109)), (cAI g a_lostAt 8 uf_17), (cAI g a_blackAt 8 uf_13), (cAI g a_slips 8 d_slips), (cAI g a_from 8 uf_16), (cO11_i1r1i10r1i2r5i2r12i3r4i2 h0 m_thrown a_tape m_taped m_size m_at m_end m_token m_whole m_nameSize m_fault m_place m_trouble a_letters m_failed m_hasHouse a_r a_fresh a_st a_undone a_kept m_undos m_images a_from a_begin a_motor a_change a_startFrame a_changeFrame a_lostAt a_blackAt a_slips a_leftArc a_died a_arcs m_bestSum m_nearest m_nearestTown a_there a_backAt a_sorted a_parts m_seed1 m_darkNow), (cAI g a_r 311 d_r), (cAI g a_st 44 d_st)] X dX11_layNight_226 2 rfl (iv_in iv_90 (by decide) (by decide)) rfl ?_
        refine k_iload_n X dX11_layNight_227 2 rfl ?_
        refine k_iload_n X dX11_layNight_228 3 rfl ?_
        refine k_ic_ge 296 X dX11_layNight_229 (by decide) (fun h_118 => ?_) (fun h_118 => ?_)
        · skip
          have j_119 : z_4.toInt ≤ u_20.toInt := iv_le h_118
          have iv_120 : IV z_4 1 6 := iv_leL (iv_le h_118) iv_91 iv_90 (by decide)
          have iv_121 : IV z_1 2 7 := by have := iv_92; have := iv_120; rw [IV]; omega
          have iv_122 : IV u_20 1 6 := iv_leR (iv_le h_118) iv_91 iv_90 (by decide)
          obtain ⟨z_123, ez_123⟩ : ∃ y : Int32, u_20 + Int32.ofInt 1 = y := ⟨_, rfl⟩
          refine k_iinc z_123 [(3, .int z_123), (5, .int r_103), (4, .int r_33), (2, .int z_4), (0, .ref h0), (1, .int p0)] 2 X dX11_layNight_296 rfl ez_123 (by decide) rfl ?_
          have i_124 : z_123.toInt = u_20.toInt + 1 := in_inc ez_123 (by decide) iv_122 (by decide) (by decide)
          have iv_125 : IV z_123 2 7 := iz1 i_124 iv_122 (by decide) (by decide)
          refine k_goto 47 X dX11_layNight_299 (by decide) ?_
          refine k_lv [(3, .int z_123), (2, .int z_4), (0, .ref h0), (1, .int p0)] [0, 3, 4, 5] rfl ?_
          refine k_sub [(cO11_i1r1i10r1i2r5i2r12i3r4i2 h0 m_thrown a_tape m_taped m_size m_at m_end m_token m_whole m_nameSize m_fault m_place m_trouble a_letters m_failed m_hasHouse a_r a_fresh a_st a_undone a_kept m_undos m_images a_from a_begin a_motor a_change a_startFrame a_changeFrame a_lostAt a_blackAt a_slips a_leftArc a_died a_arcs m_bestSum m_nearest m_nearestTown a_there a_backAt a_sorted a_parts m_seed1 m_darkNow), (cAI g a_r 311 d_r), (cAI g a_st 44 d_st), (cAI g a_from 8 uf_16), (cAI g a_begin 8 uf_12), (cAI g a_motor 8 uf_18), (cAI g a_change 8 (upd uf_14 (u_20 : Int32).toNatClampNeg z_115)), (cAI g a_startFrame 8 (upd (upd uf_19 (u_20 : Int32).toNatClampNeg (-2)) (u_20 : Int32).toNatClampNeg r_103)), (cAI g a_changeFrame 8 (upd (upd uf_15 (u_20 : Int32).toNatClampNeg r_33) (u_20 : Int32).toNatClampNeg r_109)), (cAI g a_lostAt 8 uf_17), (cAI g a_blackAt 8 uf_13), (cAI g a_slips 8 d_slips)] [9, 10, 11, 8, 0, 1, 2, 3, 4, 5, 6, 7] rfl (by decide) rfl ?_
          exact ih_26 _ (by omega) uf_12 uf_13 ((upd uf_14 (u_20 : Int32).toNatClampNeg z_115)) ((upd (upd uf_15 (u_20 : Int32).toNatClampNeg r_33) (u_20 : Int32).toNatClampNeg r_109)) uf_16 uf_17 uf_18 ((upd (upd uf_19 (u_20 : Int32).toNatClampNeg (-2)) (u_20 : Int32).toNatClampNeg r_103)) z_123 rfl (iv_w iv_125 (by decide) (by decide)) (nt_a hA_22 hB_23 (by omega) (by omega) (by omega) ez_102 ez_112 (by first | (exfalso; omega) | exact ch_g (by assumption) (by assumption) | exact ch_l (by assumption) (by assumption) (by assumption) (by assumption) (by assumption) (by assumption) (by assumption) | exact ch_n (by assumption) (by assumption) (by assumption) (by assumption) (by assumption) (by assumption) (by assumption) (by assumption) (by assumption) (by assumption) hr_0 (iv_w iv_122 (by decide) (by decide)) (by assumption) (by assumption) (by assumption) (by assumption) (by assumption) (by assumption)) (fun j _ => rfl)) (fun q => absurd q (by omega))
        · skip
          have j_126 : u_20.toInt < z_4.toInt := iv_nle h_118
          refine k_aload_n X dX11_layNight_232 4 rfl ?_
          refine k_iload_n X dX11_layNight_233 2 rfl ?_
          refine k_aload_n X dX11_layNight_234 4 rfl ?_
          refine k_get (ci := 11) X inlX11 rfl 23 (by decide) dX11_layNight_235 mw176 9 rfl rfl ?_
          refine k_iload_n X dX11_layNight_238 2 rfl ?_
          refine k_iald X dX11_layNight_239 0 rfl (iv_in iv_90 (by decide) (by decide)) ?_
          refine k_to z_112 ez_112.symm ?_
          refine k_aload_n X dX11_layNight_240 4 rfl ?_
          refine k_get (ci := 11) X inlX11 rfl 26 (by decide) dX11_layNight_241 mw179 9 rfl rfl ?_
          refine k_iload_n X dX11_layNight_244 2 rfl ?_
          refine k_iald X dX11_layNight_245 3 rfl (iv_in iv_90 (by decide) (by decide)) ?_
          refine k_to r_103 upd_at ?_
          refine k_iadd X dX11_layNight_246 ?_
          refine k_nm (fun z_127 ez_127 => ?_)
          refine k_aload_n X dX11_layNight_247 4 rfl ?_
          refine k_get (ci := 11) X inlX11 rfl 22 (by decide) dX11_layNight_248 mw175 9 rfl rfl ?_
          refine k_iload_n X dX11_layNight_251 2 rfl ?_
          refine k_iald X dX11_layNight_252 8 rfl (iv_in iv_90 (by decide) (by decide)) ?_
          refine k_to z_102 ez_102.symm ?_
          refine k_isub X dX11_layNight_253 ?_
          refine k_nm (fun z_129 ez_129 => ?_)
          refine k_aload_n X dX11_layNight_254 4 rfl ?_
          refine k_get (ci := 11) X inlX11 rfl 25 (by decide) dX11_layNight_255 mw178 9 rfl rfl ?_
          refine k_iload_n X dX11_layNight_258 2 rfl ?_
          refine k_iald X dX11_layNight_259 2 rfl (iv_in iv_90 (by decide) (by decide)) ?_
          refine k_to z_115 upd_at ?_
          refine k_aload_n X dX11_layNight_260 4 rfl ?_
          refine k_get (ci := 11) X inlX11 rfl 27 (by decide) dX11_layNight_261 mw180 9 rfl rfl ?_
          refine k_iload_n X dX11_layNight_264 2 rfl ?_
          refine k_iald X dX11_layNight_265 4 rfl (iv_in iv_90 (by decide) (by decide)) ?_
          refine k_to r_109 upd_at ?_
          refine k_aload_n X dX11_layNight_266 4 rfl ?_
          refine k_get (ci := 11) X inlX11 rfl 26 (by decide) dX11_layNight_267 mw179 9 rfl rfl ?_
          refine k_iload_n X dX11_layNight_270 2 rfl ?_
          refine k_iald X dX11_layNight_271 3 rfl (iv_in iv_90 (by decide) (by decide)) ?_
          refine k_to r_103 upd_at ?_
          refine k_isub X dX11_layNight_272 ?_
          refine k_nm (fun z_131 ez_131 => ?_)
          refine k_aload_n X dX11_layNight_273 4 rfl ?_
          refine k_get (ci := 11) X inlX11 rfl 15 (by decide) dX11_layNight_274 mw170 9 rfl rfl ?_
          refine k_iconst (v := 1) X dX11_layNight_277 (by decide) ?_
          refine k_iald X dX11_layNight_278 10 rfl (by unfold vp_in; decide) ?_
          refine k_nm (fun z_133 ez_133 => ?_)
          refine k_isub X dX11_layNight_279 ?_
          refine k_nm (fun z_134 ez_134 => ?_)
          refine k_aload_n X dX11_layNight_280 4 rfl ?_
          refine k_get (ci := 11) X inlX11 rfl 17 (by decide) dX11_layNight_281 mw172 9 rfl rfl ?_
          refine k_bipush (v := 34) X dX11_layNight_284 (by decide) ?_
          refine k_iload_n X dX11_layNight_286 2 rfl ?_
          refine k_iadd X dX11_layNight_287 ?_
          refine k_nm (fun z_136 ez_136 => ?_)
          have i_137 : z_136.toInt = 34 + u_20.toInt := in_add ez_136 (show IV 34 34 34 from (by decide)) iv_90 (by decide) (by decide)
          have iv_138 : IV z_136 34 40 := iz2 i_137 iv_90 (by decide) (by decide)
          refine k_iconst (v := 1) X dX11_layNight_288 (by decide) ?_
          refine k_iadd X dX11_layNight_289 ?_
          refine k_nm (fun z_139 ez_139 => ?_)
          have i_140 : z_139.toInt = z_136.toInt + 1 := in_add ez_139 iv_138 (show IV 1 1 1 from (by decide)) (by decide) (by decide)
          have iv_141 : IV z_139 35 41 := iz1 i_140 iv_138 (by decide) (by decide)
          refine k_iald X dX11_layNight_290 11 rfl (iv_in iv_141 (by decide) (by decide)) ?_
          refine k_nm (fun z_142 ez_142 => ?_)
          refine k_isub X dX11_layNight_291 ?_
          refine k_nm (fun z_143 ez_143 => ?_)
          refine k_iconst (v := 0) X dX11_layNight_292 (by decide) ?_
          refine k_callVV (n := 5) (As := [.int u_20, .int z_129, .int z_115, .int z_143, .int 0]) (st := []) X [(cO11_i1r1i10r1i2r5i2r12i3r4i2 h0 m_thrown a_tape m_taped m_size m_at m_end m_token m_whole m_nameSize m_fault m_place m_trouble a_letters m_failed m_hasHouse a_r a_fresh a_st a_undone a_kept m_undos m_images a_from a_begin a_motor a_change a_startFrame a_changeFrame a_lostAt a_blackAt a_slips a_leftArc a_died a_arcs m_bestSum m_nearest m_nearestTown a_there a_backAt a_sorted a_parts m_seed1 m_darkNow), (cAI g a_from 8 uf_16), (cAI g a_begin 8 uf_12), (cAI g a_motor 8 uf_18), (cAI g a_lostAt 8 uf_17), (cAI g a_blackAt 8 uf_13)] [(cAI g a_change 8 (upd uf_14 (u_20 : Int32).toNatClampNeg z_115)), (cAI g a_startFrame 8 (upd (upd uf_19 (u_20 : Int32).toNatClampNeg (-2)) (u_20 : Int32).toNatClampNeg r_103)), (cAI g a_changeFrame 8 (upd (upd uf_15 (u_20 : Int32).toNatClampNeg r_33) (u_20 : Int32).toNatClampNeg r_109)), (cAI g a_slips 8 d_slips), (cAI g a_r 311 d_r), (cAI g a_st 44 d_st)] [9, 8, 0, 1, 5, 6] [2, 3, 4, 7, 10, 11] (m_followsE l g h0 u_20 z_129 z_115 z_143 0 m_thrown a_tape m_taped m_size m_at m_end m_token m_whole m_nameSize m_fault m_place m_trouble a_letters m_failed m_hasHouse a_r a_fresh a_st a_undone a_kept m_undos m_images a_from a_begin a_motor a_change a_startFrame a_changeFrame a_lostAt a_blackAt a_slips a_leftArc a_died a_arcs m_bestSum m_nearest m_nearestTown a_there a_backAt a_sorted a_parts m_seed1 m_darkNow uf_16 uf_12 uf_18 uf_17 uf_13 (iv_w iv_90 (by decide) (by decide)) (iv_w (show IV 0 0 0 from (by decide)) (by decide) (by decide))) dX11_layNight_293 mw831 mw832 mw833 mw5 mw834 rfl 11 rfl rfl 0 _ rfl yk_yX11_follows_5 rfl (Nat.le_of_ble_eq_true rfl) (Nat.le_of_ble_eq_true rfl) (Nat.le_of_ble_eq_true rfl) (Nat.le_of_ble_eq_true rfl) (Nat.le_of_ble_eq_true rfl) rfl rfl (by decide +kernel) rfl (by decide +kernel) (by decide +kernel) ?_
          rintro w ⟨d_begin2_145, d_blackAt2_146, d_from2_147, d_lostAt2_148, d_motor2_149, hq_151, hq_152, rfl⟩
          refine k_ws [(cAI g a_change 8 (upd uf_14 (u_20 : Int32).toNatClampNeg z_115)), (cAI g a_startFrame 8 (upd (upd uf_19 (u_20 : Int32).toNatClampNeg (-2)) (u_20 : Int32).toNatClampNeg r_103)), (cAI g a_changeFrame 8 (upd (upd uf_15 (u_20 : Int32).toNatClampNeg r_33) (u_20 : Int32).toNatClampNeg r_109)), (cAI g a_slips 8 d_slips), (cAI g a_r 311 d_r), (cAI g a_st 44 d_st), (cO11_i1r1i10r1i2r5i2r12i3r4i2 h0 m_thrown a_tape m_taped m_size m_at m_end m_token m_whole m_nameSize m_fault m_place m_trouble a_letters m_failed m_hasHouse a_r a_fresh a_st a_undone a_kept m_undos m_images a_from a_begin a_motor a_change a_startFrame a_changeFrame a_lostAt a_blackAt a_slips a_leftArc a_died a_arcs m_bestSum m_nearest m_nearestTown a_there a_backAt a_sorted a_parts m_seed1 m_darkNow), (cAI g a_from 8 d_from2_147), (cAI g a_begin 8 d_begin2_145), (cAI g a_motor 8 d_motor2_149), (cAI g a_lostAt 8 d_lostAt2_148), (cAI g a_blackAt 8 d_blackAt2_146)] rfl ?_
          obtain ⟨z_153, ez_153⟩ : ∃ y : Int32, u_20 + Int32.ofInt 1 = y := ⟨_, rfl⟩
          refine k_iinc z_153 [(3, .int z_153), (5, .int r_103), (4, .int r_33), (2, .int z_4), (0, .ref h0), (1, .int p0)] 2 X dX11_layNight_296 rfl ez_153 (by decide) rfl ?_
          have i_154 : z_153.toInt = u_20.toInt + 1 := in_inc ez_153 (by decide) iv_90 (by decide) (by decide)
          have iv_155 : IV z_153 1 7 := iz1 i_154 iv_90 (by decide) (by decide)
          refine k_goto 47 X dX11_layNight_299 (by decide) ?_
          refine k_lv [(3, .int z_153), (2, .int z_4), (0, .ref h0), (1, .int p0)] [0, 3, 4, 5] rfl ?_
          refine k_sub [(cO11_i1r1i10r1i2r5i2r12i3r4i2 h0 m_thrown a_tape m_taped m_size m_at m_end m_token m_whole m_nameSize m_fault m_place m_trouble a_letters m_failed m_hasHouse a_r a_fresh a_st a_undone a_kept m_undos m_images a_from a_begin a_motor a_change a_startFrame a_changeFrame a_lostAt a_blackAt a_slips a_leftArc a_died a_arcs m_bestSum m_nearest m_nearestTown a_there a_backAt a_sorted a_parts m_seed1 m_darkNow), (cAI g a_r 311 d_r), (cAI g a_st 44 d_st), (cAI g a_from 8 d_from2_147), (cAI g a_begin 8 d_begin2_145), (cAI g a_motor 8 d_motor2_149), (cAI g a_change 8 (upd uf_14 (u_20 : Int32).toNatClampNeg z_115)), (cAI g a_startFrame 8 (upd (upd uf_19 (u_20 : Int32).toNatClampNeg (-2)) (u_20 : Int32).toNatClampNeg r_103)), (cAI g a_changeFrame 8 (upd (upd uf_15 (u_20 : Int32).toNatClampNeg r_33) (u_20 : Int32).toNatClampNeg r_109)), (cAI g a_lostAt 8 d_lostAt2_148), (cAI g a_blackAt 8 d_blackAt2_146), (cAI g a_slips 8 d_slips)] [6, 4, 5, 7, 8, 9, 0, 1, 2, 10, 11, 3] rfl (by decide) rfl ?_
          exact ih_26 _ (by omega) d_begin2_145 d_blackAt2_146 ((upd uf_14 (u_20 : Int32).toNatClampNeg z_115)) ((upd (upd uf_15 (u_20 : Int32).toNatClampNeg r_33) (u_20 : Int32).toNatClampNeg r_109)) d_from2_147 d_lostAt2_148 d_motor2_149 ((upd (upd uf_19 (u_20 : Int32).toNatClampNeg (-2)) (u_20 : Int32).toNatClampNeg r_103)) z_153 rfl (iv_w iv_155 (by decide) (by decide)) (nt_a hA_22 hB_23 (by omega) (by omega) (by omega) ez_102 ez_112 (by first | (exfalso; omega) | exact ch_g (by assumption) (by assumption) | exact ch_l (by assumption) (by assumption) (by assumption) (by assumption) (by assumption) (by assumption) (by assumption) | exact ch_n (by assumption) (by assumption) (by assumption) (by assumption) (by assumption) (by assumption) (by assumption) (by assumption) (by assumption) (by assumption) hr_0 (iv_w iv_90 (by decide) (by decide)) (by assumption) (by assumption) (by assumption) (by assumption) (by assumption) (by assumption)) (by rw [hq_152]; exact nt_kb (by rw [addI (by rw [oneI]; omega) (by rw [oneI]; omega), oneI]) (by omega))) (by rw [hq_151, hq_152]; exact nt_b hB_23 (by omega) (by omega) (by omega) (by rw [addI (by rw [oneI]; omega) (by rw [oneI]; omega), oneI]) ez_102 ez_112 (by first | (exfalso; omega) | exact nt_g (by assumption) (by assumption) | exact nt_n (by assumption) (by assumption) (by assumption) (by assumption) (by assumption) (by assumption) (by assumption) (by assumption) (by assumption) (by assumption) (by assumption) (by assumption) (by assumption) (by assumption) (by assumption) (by assumption) (by assumption) hr_0 (iv_w iv_90 (by decide) (by decide)) (by assumption) (by assumption) (by assumption) (by assumption) (by assumption)))
    · skip
      have iv_156 : IV r_36 1 1 := iv_neL h_39 iv_37 (show IV 0 0 0 from (by decide)) (by decide)
      refine k_aload_n X dX11_layNight_75 3 rfl ?_
      refine k_get (ci := 11) X inlX11 rfl 28 (by decide) dX11_layNight_76 mw181 8 rfl rfl ?_
      refine k_iload_n X dX11_layNight_79 1 rfl ?_
      refine k_iload X dX11_layNight_80 0 rfl ?_
      refine k_iast [(cAI g a_begin 8 uf_12), (cAI g a_motor 8 uf_18), (cAI g a_change 8 uf_14), (cAI g a_startFrame 8 (upd uf_19 (u_20 : Int32).toNatClampNeg (-2))), (cAI g a_changeFrame 8 uf_15), (cAI g a_lostAt 8 (upd uf_17 (u_20 : Int32).toNatClampNeg r_33)), (cAI g a_blackAt 8 uf_13), (cAI g a_slips 8 d_slips), (cO11_i1r1i10r1i2r5i2r12i3r4i2 h0 m_thrown a_tape m_taped m_size m_at m_end m_token m_whole m_nameSize m_fault m_place m_trouble a_letters m_failed m_hasHouse a_r a_fresh a_st a_undone a_kept m_undos m_images a_from a_begin a_motor a_change a_startFrame a_changeFrame a_lostAt a_blackAt a_slips a_leftArc a_died a_arcs m_bestSum m_nearest m_nearestTown a_there a_backAt a_sorted a_parts m_seed1 m_darkNow), (cAI g a_r 311 d_r), (cAI g a_st 44 d_st), (cAI g a_from 8 uf_16)] X dX11_layNight_82 5 rfl (iv_in iv_30 (by decide) (by decide)) rfl ?_
      refine k_aload_n X dX11_layNight_83 3 rfl ?_
      refine k_get (ci := 11) X inlX11 rfl 27 (by decide) dX11_layNight_84 mw180 8 rfl rfl ?_
      refine k_iload_n X dX11_layNight_87 1 rfl ?_
      refine k_iconst (v := 0) X dX11_layNight_88 (by decide) ?_
      refine k_iast [(cAI g a_begin 8 uf_12), (cAI g a_motor 8 uf_18), (cAI g a_change 8 uf_14), (cAI g a_startFrame 8 (upd uf_19 (u_20 : Int32).toNatClampNeg (-2))), (cAI g a_changeFrame 8 (upd uf_15 (u_20 : Int32).toNatClampNeg 0)), (cAI g a_lostAt 8 (upd uf_17 (u_20 : Int32).toNatClampNeg r_33)), (cAI g a_blackAt 8 uf_13), (cAI g a_slips 8 d_slips), (cO11_i1r1i10r1i2r5i2r12i3r4i2 h0 m_thrown a_tape m_taped m_size m_at m_end m_token m_whole m_nameSize m_fault m_place m_trouble a_letters m_failed m_hasHouse a_r a_fresh a_st a_undone a_kept m_undos m_images a_from a_begin a_motor a_change a_startFrame a_changeFrame a_lostAt a_blackAt a_slips a_leftArc a_died a_arcs m_bestSum m_nearest m_nearestTown a_there a_backAt a_sorted a_parts m_seed1 m_darkNow), (cAI g a_r 311 d_r), (cAI g a_st 44 d_st), (cAI g a_from 8 uf_16)] X dX11_layNight_89 4 rfl (iv_in iv_30 (by decide) (by decide)) rfl ?_
      refine k_aload_n X dX11_layNight_90 3 rfl ?_
      refine k_get (ci := 11) X inlX11 rfl 25 (by decide) dX11_layNight_91 mw178 8 rfl rfl ?_
      refine k_iload_n X dX11_layNight_94 1 rfl ?_
      refine k_aload_n X dX11_layNight_95 3 rfl ?_
      refine k_get (ci := 11) X inlX11 rfl 23 (by decide) dX11_layNight_96 mw176 8 rfl rfl ?_
      refine k_iload_n X dX11_layNight_99 1 rfl ?_
      refine k_iald X dX11_layNight_100 0 rfl (iv_in iv_30 (by decide) (by decide)) ?_
      refine k_nm (fun z_159 ez_159 => ?_)
      refine k_iast [(cAI g a_begin 8 uf_12), (cAI g a_motor 8 uf_18), (cAI g a_change 8 (upd uf_14 (u_20 : Int32).toNatClampNeg z_159)), (cAI g a_startFrame 8 (upd uf_19 (u_20 : Int32).toNatClampNeg (-2))), (cAI g a_changeFrame 8 (upd uf_15 (u_20 : Int32).toNatClampNeg 0)), (cAI g a_lostAt 8 (upd uf_17 (u_20 : Int32).toNatClampNeg r_33)), (cAI g a_blackAt 8 uf_13), (cAI g a_slips 8 d_slips), (cO11_i1r1i10r1i2r5i2r12i3r4i2 h0 m_thrown a_tape m_taped m_size m_at m_end m_token m_whole m_nameSize m_fault m_place m_trouble a_letters m_failed m_hasHouse a_r a_fresh a_st a_undone a_kept m_undos m_images a_from a_begin a_motor a_change a_startFrame a_changeFrame a_lostAt a_blackAt a_slips a_leftArc a_died a_arcs m_bestSum m_nearest m_nearestTown a_there a_backAt a_sorted a_parts m_seed1 m_darkNow), (cAI g a_r 311 d_r), (cAI g a_st 44 d_st), (cAI g a_from 8 uf_16)] X dX11_layNight_101 2 rfl (iv_in iv_30 (by decide) (by decide)) rfl ?_
      refine k_iload_n X dX11_layNight_102 1 rfl ?_
      refine k_iload_n X dX11_layNight_103 2 rfl ?_
      refine k_ic_ge 296 X dX11_layNight_104 (by decide) (fun h_161 => ?_) (fun h_161 => ?_)
      · skip
        have j_162 : z_4.toInt ≤ u_20.toInt := iv_le h_161
        obtain ⟨z_163, ez_163⟩ : ∃ y : Int32, u_20 + Int32.ofInt 1 = y := ⟨_, rfl⟩
        refine k_iinc z_163 [(3, .int z_163), (4, .int r_33), (2, .int z_4), (0, .ref h0), (1, .int p0)] 1 X dX11_layNight_296 rfl ez_163 (by decide) rfl ?_
        have i_164 : z_163.toInt = u_20.toInt + 1 := in_inc ez_163 (by decide) iv_30 (by decide) (by decide)
        have iv_165 : IV z_163 1 8 := iz1 i_164 iv_30 (by decide) (by decide)
        refine k_goto 47 X dX11_layNight_299 (by decide) ?_
        refine k_lv [(3, .int z_163), (2, .int z_4), (0, .ref h0), (1, .int p0)] [0, 2, 3, 4] rfl ?_
        refine k_sub [(cO11_i1r1i10r1i2r5i2r12i3r4i2 h0 m_thrown a_tape m_taped m_size m_at m_end m_token m_whole m_nameSize m_fault m_place m_trouble a_letters m_failed m_hasHouse a_r a_fresh a_st a_undone a_kept m_undos m_images a_from a_begin a_motor a_change a_startFrame a_changeFrame a_lostAt a_blackAt a_slips a_leftArc a_died a_arcs m_bestSum m_nearest m_nearestTown a_there a_backAt a_sorted a_parts m_seed1 m_darkNow), (cAI g a_r 311 d_r), (cAI g a_st 44 d_st), (cAI g a_from 8 uf_16), (cAI g a_begin 8 uf_12), (cAI g a_motor 8 uf_18), (cAI g a_change 8 (upd uf_14 (u_20 : Int32).toNatClampNeg z_159)), (cAI g a_startFrame 8 (upd uf_19 (u_20 : Int32).toNatClampNeg (-2))), (cAI g a_changeFrame 8 (upd uf_15 (u_20 : Int32).toNatClampNeg 0)), (cAI g a_lostAt 8 (upd uf_17 (u_20 : Int32).toNatClampNeg r_33)), (cAI g a_blackAt 8 uf_13), (cAI g a_slips 8 d_slips)] [8, 9, 10, 11, 0, 1, 2, 3, 4, 5, 6, 7] rfl (by decide) rfl ?_
        exact ih_26 _ (by omega) uf_12 uf_13 ((upd uf_14 (u_20 : Int32).toNatClampNeg z_159)) ((upd uf_15 (u_20 : Int32).toNatClampNeg 0)) uf_16 ((upd uf_17 (u_20 : Int32).toNatClampNeg r_33)) uf_18 ((upd uf_19 (u_20 : Int32).toNatClampNeg (-2))) z_163 rfl (iv_w iv_165 (by decide) (by decide)) (nt_a hA_22 hB_23 (by omega) (by omega) (by omega) rfl ez_159 (by first | (exfalso; omega) | exact ch_g (by assumption) (by assumption) | exact ch_l (by assumption) (by assumption) (by assumption) (by assumption) (by assumption) (by assumption) (by assumption) | exact ch_n (by assumption) (by assumption) (by assumption) (by assumption) (by assumption) (by assumption) (by assumption) (by assumption) (by assumption) (by assumption) hr_0 (iv_w iv_30 (by decide) (by decide)) (by assumption) (by assumption) (by assumption) (by assumption) (by assumption) (by assumption)) (fun j _ => rfl)) (fun q => absurd q (by omega))
      · skip
        have j_166 : u_20.toInt < z_4.toInt := iv_nle h_161
        have iv_167 : IV u_20 0 6 := iv_ltL (iv_nle h_161) iv_30 iv_31 (by decide)
        have iv_168 : IV z_4 1 7 := iv_ltR (iv_nle h_161) iv_30 iv_31 (by decide)
        have iv_169 : IV z_1 2 8 := by have := iv_32; have := iv_168; rw [IV]; omega
        refine k_aload_n X dX11_layNight_107 3 rfl ?_
        refine k_iload_n X dX11_layNight_108 1 rfl ?_
        refine k_aload_n X dX11_layNight_109 3 rfl ?_
        refine k_get (ci := 11) X inlX11 rfl 25 (by decide) dX11_layNight_110 mw178 8 rfl rfl ?_
        refine k_iload_n X dX11_layNight_113 1 rfl ?_
        refine k_iald X dX11_layNight_114 2 rfl (iv_in iv_167 (by decide) (by decide)) ?_
        refine k_to z_159 upd_at ?_
        refine k_aload_n X dX11_layNight_115 3 rfl ?_
        refine k_get (ci := 11) X inlX11 rfl 25 (by decide) dX11_layNight_116 mw178 8 rfl rfl ?_
        refine k_iload_n X dX11_layNight_119 1 rfl ?_
        refine k_iald X dX11_layNight_120 2 rfl (iv_in iv_167 (by decide) (by decide)) ?_
        refine k_to z_159 upd_at ?_
        refine k_iconst (v := 0) X dX11_layNight_121 (by decide) ?_
        refine k_iconst (v := 1) X dX11_layNight_122 (by decide) ?_
        refine k_callVV (n := 5) (As := [.int u_20, .int z_159, .int z_159, .int 0, .int 1]) (st := []) X [(cO11_i1r1i10r1i2r5i2r12i3r4i2 h0 m_thrown a_tape m_taped m_size m_at m_end m_token m_whole m_nameSize m_fault m_place m_trouble a_letters m_failed m_hasHouse a_r a_fresh a_st a_undone a_kept m_undos m_images a_from a_begin a_motor a_change a_startFrame a_changeFrame a_lostAt a_blackAt a_slips a_leftArc a_died a_arcs m_bestSum m_nearest m_nearestTown a_there a_backAt a_sorted a_parts m_seed1 m_darkNow), (cAI g a_from 8 uf_16), (cAI g a_begin 8 uf_12), (cAI g a_motor 8 uf_18), (cAI g a_lostAt 8 (upd uf_17 (u_20 : Int32).toNatClampNeg r_33)), (cAI g a_blackAt 8 uf_13)] [(cAI g a_change 8 (upd uf_14 (u_20 : Int32).toNatClampNeg z_159)), (cAI g a_startFrame 8 (upd uf_19 (u_20 : Int32).toNatClampNeg (-2))), (cAI g a_changeFrame 8 (upd uf_15 (u_20 : Int32).toNatClampNeg 0)), (cAI g a_slips 8 d_slips), (cAI g a_r 311 d_r), (cAI g a_st 44 d_st)] [8, 11, 0, 1, 5, 6] [2, 3, 4, 7, 9, 10] (m_followsE l g h0 u_20 z_159 z_159 0 1 m_thrown a_tape m_taped m_size m_at m_end m_token m_whole m_nameSize m_fault m_place m_trouble a_letters m_failed m_hasHouse a_r a_fresh a_st a_undone a_kept m_undos m_images a_from a_begin a_motor a_change a_startFrame a_changeFrame a_lostAt a_blackAt a_slips a_leftArc a_died a_arcs m_bestSum m_nearest m_nearestTown a_there a_backAt a_sorted a_parts m_seed1 m_darkNow uf_16 uf_12 uf_18 ((upd uf_17 (u_20 : Int32).toNatClampNeg r_33)) uf_13 (iv_w iv_167 (by decide) (by decide)) (iv_w (show IV 1 1 1 from (by decide)) (by decide) (by decide))) dX11_layNight_123 mw831 mw832 mw833 mw5 mw834 rfl 11 rfl rfl 0 _ rfl yk_yX11_follows_5 rfl (Nat.le_of_ble_eq_true rfl) (Nat.le_of_ble_eq_true rfl) (Nat.le_of_ble_eq_true rfl) (Nat.le_of_ble_eq_true rfl) (Nat.le_of_ble_eq_true rfl) rfl rfl (by decide +kernel) rfl (by decide +kernel) (by decide +kernel) ?_
        rintro w ⟨d_begin2_170, d_blackAt2_171, d_from2_172, d_lostAt2_173, d_motor2_174, hq_176, hq_177, rfl⟩
        refine k_ws [(cAI g a_change 8 (upd uf_14 (u_20 : Int32).toNatClampNeg z_159)), (cAI g a_startFrame 8 (upd uf_19 (u_20 : Int32).toNatClampNeg (-2))), (cAI g a_changeFrame 8 (upd uf_15 (u_20 : Int32).toNatClampNeg 0)), (cAI g a_slips 8 d_slips), (cAI g a_r 311 d_r), (cAI g a_st 44 d_st), (cO11_i1r1i10r1i2r5i2r12i3r4i2 h0 m_thrown a_tape m_taped m_size m_at m_end m_token m_whole m_nameSize m_fault m_place m_trouble a_letters m_failed m_hasHouse a_r a_fresh a_st a_undone a_kept m_undos m_images a_from a_begin a_motor a_change a_startFrame a_changeFrame a_lostAt a_blackAt a_slips a_leftArc a_died a_arcs m_bestSum m_nearest m_nearestTown a_there a_backAt a_sorted a_parts m_seed1 m_darkNow), (cAI g a_from 8 d_from2_172), (cAI g a_begin 8 d_begin2_170), (cAI g a_motor 8 d_motor2_174), (cAI g a_lostAt 8 d_lostAt2_173), (cAI g a_blackAt 8 d_blackAt2_171)] rfl ?_
        refine k_goto 296 X dX11_layNight_126 (by decide) ?_
        obtain ⟨z_178, ez_178⟩ : ∃ y : Int32, u_20 + Int32.ofInt 1 = y := ⟨_, rfl⟩
        refine k_iinc z_178 [(3, .int z_178), (4, .int r_33), (2, .int z_4), (0, .ref h0), (1, .int p0)] 1 X dX11_layNight_296 rfl ez_178 (by decide) rfl ?_
        have i_179 : z_178.toInt = u_20.toInt + 1 := in_inc ez_178 (by decide) iv_167 (by decide) (by decide)
        have iv_180 : IV z_178 1 7 := iz1 i_179 iv_167 (by decide) (by decide)
        refine k_goto 47 X dX11_layNight_299 (by decide) ?_
        refine k_lv [(3, .int z_178), (2, .int z_4), (0, .ref h0), (1, .int p0)] [0, 2, 3, 4] rfl ?_
        refine k_sub [(cO11_i1r1i10r1i2r5i2r12i3r4i2 h0 m_thrown a_tape m_taped m_size m_at m_end m_token m_whole m_nameSize m_fault m_place m_trouble a_letters m_failed m_hasHouse a_r a_fresh a_st a_undone a_kept m_undos m_images a_from a_begin a_motor a_change a_startFrame a_changeFrame a_lostAt a_blackAt a_slips a_leftArc a_died a_arcs m_bestSum m_nearest m_nearestTown a_there a_backAt a_sorted a_parts m_seed1 m_darkNow), (cAI g a_r 311 d_r), (cAI g a_st 44 d_st), (cAI g a_from 8 d_from2_172), (cAI g a_begin 8 d_begin2_170), (cAI g a_motor 8 d_motor2_174), (cAI g a_change 8 (upd uf_14 (u_20 : Int32).toNatClampNeg z_159)), (cAI g a_startFrame 8 (upd uf_19 (u_20 : Int32).toNatClampNeg (-2))), (cAI g a_changeFrame 8 (upd uf_15 (u_20 : Int32).toNatClampNeg 0)), (cAI g a_lostAt 8 d_lostAt2_173), (cAI g a_blackAt 8 d_blackAt2_171), (cAI g a_slips 8 d_slips)] [6, 4, 5, 7, 8, 9, 0, 1, 2, 10, 11, 3] rfl (by decide) rfl ?_
        exact ih_26 _ (by omega) d_begin2_170 d_blackAt2_171 ((upd uf_14 (u_20 : Int32).toNatClampNeg z_159)) ((upd uf_15 (u_20 : Int32).toNatClampNeg 0)) d_from2_172 d_lostAt2_173 d_motor2_174 ((upd uf_19 (u_20 : Int32).toNatClampNeg (-2))) z_178 rfl (iv_w iv_180 (by decide) (by decide)) (nt_a hA_22 hB_23 (by omega) (by omega) (by omega) rfl ez_159 (by first | (exfalso; omega) | exact ch_g (by assumption) (by assumption) | exact ch_l (by assumption) (by assumption) (by assumption) (by assumption) (by assumption) (by assumption) (by assumption) | exact ch_n (by assumption) (by assumption) (by assumption) (by assumption) (by assumption) (by assumption) (by assumption) (by assumption) (by assumption) (by assumption) hr_0 (iv_w iv_167 (by decide) (by decide)) (by assumption) (by assumption) (by assumption) (by assumption) (by assumption) (by assumption)) (by rw [hq_177]; exact nt_kb (by rw [addI (by rw [oneI]; omega) (by rw [oneI]; omega), oneI]) (by omega))) (by rw [hq_176, hq_177]; exact nt_b hB_23 (by omega) (by omega) (by omega) (by rw [addI (by rw [oneI]; omega) (by rw [oneI]; omega), oneI]) rfl ez_159 (by first | (exfalso; omega) | exact nt_g (by assumption) (by assumption) | exact nt_n (by assumption) (by assumption) (by assumption) (by assumption) (by assumption) (by assumption) (by assumption) (by assumption) (by assumption) (by assumption) (by assumption) (by assumption) (by assumption) (by assumption) (by assumption) (by assumption) (by assumption) hr_0 (iv_w iv_167 (by decide) (by decide)) (by assumption) (by assumption) (by assumption) (by assumption) (by assumption)))
