
set_option maxHeartbeats 4000000 in
set_option maxRecDepth 100000 in
theorem m_layToldE (l : Launch) (g : Gx) (h0 : Nat) (p0 : Int32) (m_thrown : Int32) (a_tape : Nat) (m_taped : Int32) (m_size : Int32) (m_at : Int32) (m_end : Int32) (m_token : Int32) (m_whole : Int32) (m_nameSize : Int32) (m_fault : Int32) (m_place : Int32) (m_trouble : Int32) (a_letters : Nat) (m_failed : Int32) (m_hasHouse : Int32) (a_r : Nat) (a_fresh : Nat) (a_st : Nat) (a_undone : Nat) (a_kept : Nat) (m_undos : Int32) (m_images : Int32) (a_from : Nat) (a_begin : Nat) (a_motor : Nat) (a_change : Nat) (a_startFrame : Nat) (a_changeFrame : Nat) (a_lostAt : Nat) (a_blackAt : Nat) (a_slips : Nat) (a_leftArc : Nat) (a_died : Nat) (a_arcs : Nat) (m_bestSum : Int32) (m_nearest : Int32) (m_nearestTown : Int32) (a_there : Nat) (a_backAt : Nat) (a_sorted : Nat) (a_parts : Nat) (m_seed1 : Int32) (m_darkNow : Int32) (d_r : Nat → Int32) (d_st : Nat → Int32) (d_from : Nat → Int32) (d_begin : Nat → Int32) (d_motor : Nat → Int32) (d_change : Nat → Int32) (d_startFrame : Nat → Int32) (d_changeFrame : Nat → Int32) (d_lostAt : Nat → Int32) (d_blackAt : Nat → Int32) (d_slips : Nat → Int32) (hv_p0 : IV p0 0 3) (hp_d_r : RInv d_r) : cV l g yX11_layTold cX11_layTold 3 4 88 0 0 [.ref h0, .int p0] [(cO11_i1r1i10r1i2r5i2r12i3r4i2 h0 m_thrown a_tape m_taped m_size m_at m_end m_token m_whole m_nameSize m_fault m_place m_trouble a_letters m_failed m_hasHouse a_r a_fresh a_st a_undone a_kept m_undos m_images a_from a_begin a_motor a_change a_startFrame a_changeFrame a_lostAt a_blackAt a_slips a_leftArc a_died a_arcs m_bestSum m_nearest m_nearestTown a_there a_backAt a_sorted a_parts m_seed1 m_darkNow), (cAI g a_r 311 d_r), (cAI g a_st 44 d_st), (cAI g a_from 8 d_from), (cAI g a_begin 8 d_begin), (cAI g a_motor 8 d_motor), (cAI g a_change 8 d_change), (cAI g a_startFrame 8 d_startFrame), (cAI g a_changeFrame 8 d_changeFrame), (cAI g a_lostAt 8 d_lostAt), (cAI g a_blackAt 8 d_blackAt), (cAI g a_slips 8 d_slips)] (fun w => ∃ (d_begin2 : Nat → Int32) (d_blackAt2 : Nat → Int32) (d_change2 : Nat → Int32) (d_changeFrame2 : Nat → Int32) (d_from2 : Nat → Int32) (d_lostAt2 : Nat → Int32) (d_motor2 : Nat → Int32) (d_slips2 : Nat → Int32) (d_startFrame2 : Nat → Int32), (∀ j : Nat, (j : Int) < (d_r 12).toInt → d_begin2 j = (NS d_r d_st (d_r (114 + 3 * p0 + 2).toNatClampNeg) p0 j).2 ∧ d_change2 j = CHF d_r d_st (d_r (114 + 3 * p0 + 2).toNatClampNeg) p0 (d_r 12 - 1) j) ∧ w = [(cO11_i1r1i10r1i2r5i2r12i3r4i2 h0 m_thrown a_tape m_taped m_size m_at m_end m_token m_whole m_nameSize m_fault m_place m_trouble a_letters m_failed m_hasHouse a_r a_fresh a_st a_undone a_kept m_undos m_images a_from a_begin a_motor a_change a_startFrame a_changeFrame a_lostAt a_blackAt a_slips a_leftArc a_died a_arcs m_bestSum m_nearest m_nearestTown a_there a_backAt a_sorted a_parts m_seed1 m_darkNow), (cAI g a_r 311 d_r), (cAI g a_st 44 d_st), (cAI g a_from 8 d_from2), (cAI g a_begin 8 d_begin2), (cAI g a_motor 8 d_motor2), (cAI g a_change 8 d_change2), (cAI g a_startFrame 8 d_startFrame2), (cAI g a_changeFrame 8 d_changeFrame2), (cAI g a_lostAt 8 d_lostAt2), (cAI g a_blackAt 8 d_blackAt2), (cAI g a_slips 8 d_slips2)]) := by
  refine cV.of (by decide) (Nat.le_of_ble_eq_true rfl) ?_
  intro p e s m args below meth c A X hr hi
  refine k_lveq [(0, .ref h0), (1, .int p0)] rfl ?_
  refine k_iconst (v := 0) X dX11_layTold_0 (by decide) ?_
  refine k_istore_n [(2, .int 0), (0, .ref h0), (1, .int p0)] X dX11_layTold_1 (by decide) rfl ?_
  refine (fun hL : ∀ (nn_5 : Nat) (uf_1 : Nat → Int32) (u_2 : Int32), (8 - u_2.toInt).toNat = nn_5 → (IV u_2 0 8) → (∀ i : Nat, i < u_2.toInt.toNat → uf_1 i = d_r (114 + 3 * p0 + 2).toNatClampNeg) → Wk p l e _ s m args below meth c _ A g _ _ _ [(cO11_i1r1i10r1i2r5i2r12i3r4i2 h0 m_thrown a_tape m_taped m_size m_at m_end m_token m_whole m_nameSize m_fault m_place m_trouble a_letters m_failed m_hasHouse a_r a_fresh a_st a_undone a_kept m_undos m_images a_from a_begin a_motor a_change a_startFrame a_changeFrame a_lostAt a_blackAt a_slips a_leftArc a_died a_arcs m_bestSum m_nearest m_nearestTown a_there a_backAt a_sorted a_parts m_seed1 m_darkNow), (cAI g a_r 311 d_r), (cAI g a_st 44 d_st), (cAI g a_from 8 d_from), (cAI g a_begin 8 d_begin), (cAI g a_motor 8 d_motor), (cAI g a_change 8 d_change), (cAI g a_startFrame 8 d_startFrame), (cAI g a_changeFrame 8 d_changeFrame), (cAI g a_lostAt 8 d_lostAt), (cAI g a_blackAt 8 d_blackAt), (cAI g a_slips 8 uf_1)] [(2, .int u_2), (0, .ref h0), (1, .int p0)] 2 [] => hL _ d_slips 0 rfl (iv_w (show IV 0 0 0 from (by decide)) (by decide) (by decide)) (fun i q => absurd q (by rw [zI]; exact Nat.not_lt_zero _))) ?_
  refine fun nn_5 => Nat.strongRecOn nn_5 (fun nn_5 ih_7 => ?_)
  intro uf_1 u_2 hm_6 hv_3 hx_4
  refine k_iload_n X dX11_layTold_2 0 rfl ?_
  refine k_bipush (v := 8) X dX11_layTold_3 (by decide) ?_
  refine k_ic_ge 33 X dX11_layTold_5 (by decide) (fun h_8 => ?_) (fun h_8 => ?_)
  · skip
    have j_9 : 8 ≤ u_2.toInt := iv_le h_8
    have iv_10 : IV u_2 8 8 := iv_leR (iv_le h_8) (show IV 8 8 8 from (by decide)) hv_3 (by decide)
    refine k_aload_n X dX11_layTold_33 1 rfl ?_
    refine k_iload_n X dX11_layTold_34 2 rfl ?_
    refine k_callVV (n := 1) (As := [.int p0]) (st := []) X [(cO11_i1r1i10r1i2r5i2r12i3r4i2 h0 m_thrown a_tape m_taped m_size m_at m_end m_token m_whole m_nameSize m_fault m_place m_trouble a_letters m_failed m_hasHouse a_r a_fresh a_st a_undone a_kept m_undos m_images a_from a_begin a_motor a_change a_startFrame a_changeFrame a_lostAt a_blackAt a_slips a_leftArc a_died a_arcs m_bestSum m_nearest m_nearestTown a_there a_backAt a_sorted a_parts m_seed1 m_darkNow), (cAI g a_r 311 d_r), (cAI g a_st 44 d_st), (cAI g a_from 8 d_from), (cAI g a_begin 8 d_begin), (cAI g a_motor 8 d_motor), (cAI g a_change 8 d_change), (cAI g a_startFrame 8 d_startFrame), (cAI g a_changeFrame 8 d_changeFrame), (cAI g a_lostAt 8 d_lostAt), (cAI g a_blackAt 8 d_blackAt), (cAI g a_slips 8 uf_1)] [] [0, 1, 2, 3, 4, 5, 6, 7, 8, 9, 10, 11] [] (m_layNightE l g h0 p0 m_thrown a_tape m_taped m_size m_at m_end m_token m_whole m_nameSize m_fault m_place m_trouble a_letters m_failed m_hasHouse a_r a_fresh a_st a_undone a_kept m_undos m_images a_from a_begin a_motor a_change a_startFrame a_changeFrame a_lostAt a_blackAt a_slips a_leftArc a_died a_arcs m_bestSum m_nearest m_nearestTown a_there a_backAt a_sorted a_parts m_seed1 m_darkNow d_r d_st d_from d_begin d_motor d_change d_startFrame d_changeFrame d_lostAt d_blackAt uf_1 ((d_r (114 + 3 * p0 + 2).toNatClampNeg)) (iv_w hv_p0 (by decide) (by decide)) hp_d_r (fun i hi => hx_4 i (by omega))) dX11_layTold_35 mw819 mw820 mw821 mw5 mw822 rfl 11 rfl rfl 0 _ rfl yk_yX11_layNight_1 rfl (Nat.le_of_ble_eq_true rfl) (Nat.le_of_ble_eq_true rfl) (Nat.le_of_ble_eq_true rfl) (Nat.le_of_ble_eq_true rfl) (Nat.le_of_ble_eq_true rfl) rfl rfl (by decide +kernel) rfl (by decide +kernel) (by decide +kernel) ?_
    rintro w ⟨d_begin2_11, d_blackAt2_12, d_change2_13, d_changeFrame2_14, d_from2_15, d_lostAt2_16, d_motor2_17, d_startFrame2_18, hq_20, rfl⟩
    refine k_ws [(cO11_i1r1i10r1i2r5i2r12i3r4i2 h0 m_thrown a_tape m_taped m_size m_at m_end m_token m_whole m_nameSize m_fault m_place m_trouble a_letters m_failed m_hasHouse a_r a_fresh a_st a_undone a_kept m_undos m_images a_from a_begin a_motor a_change a_startFrame a_changeFrame a_lostAt a_blackAt a_slips a_leftArc a_died a_arcs m_bestSum m_nearest m_nearestTown a_there a_backAt a_sorted a_parts m_seed1 m_darkNow), (cAI g a_r 311 d_r), (cAI g a_st 44 d_st), (cAI g a_from 8 d_from2_15), (cAI g a_begin 8 d_begin2_11), (cAI g a_motor 8 d_motor2_17), (cAI g a_change 8 d_change2_13), (cAI g a_startFrame 8 d_startFrame2_18), (cAI g a_changeFrame 8 d_changeFrame2_14), (cAI g a_lostAt 8 d_lostAt2_16), (cAI g a_blackAt 8 d_blackAt2_12), (cAI g a_slips 8 uf_1)] rfl ?_
    exact k_vret X hr dX11_layTold_38 (Nat.le_of_ble_eq_true rfl) (Nat.le_of_ble_eq_true rfl) [0, 1, 2, 3, 4, 5, 6, 7, 8, 9, 10, 11] (by decide) rfl rfl ⟨d_begin2_11, d_blackAt2_12, d_change2_13, d_changeFrame2_14, d_from2_15, d_lostAt2_16, d_motor2_17, uf_1, d_startFrame2_18, hq_20, rfl⟩
  · skip
    have j_21 : u_2.toInt < 8 := iv_nle h_8
    have iv_22 : IV u_2 0 7 := iv_ltL (iv_nle h_8) hv_3 (show IV 8 8 8 from (by decide)) (by decide)
    refine k_aload_n X dX11_layTold_8 1 rfl ?_
    refine k_get (ci := 11) X inlX11 rfl 30 (by decide) dX11_layTold_9 mw183 0 rfl rfl ?_
    refine k_iload_n X dX11_layTold_12 0 rfl ?_
    refine k_aload_n X dX11_layTold_13 1 rfl ?_
    refine k_get (ci := 11) X inlX11 rfl 15 (by decide) dX11_layTold_14 mw170 0 rfl rfl ?_
    refine k_bipush (v := 114) X dX11_layTold_17 (by decide) ?_
    refine k_iconst (v := 3) X dX11_layTold_19 (by decide) ?_
    refine k_iload_n X dX11_layTold_20 2 rfl ?_
    refine k_imul X dX11_layTold_21 ?_
    refine k_nm (fun z_23 ez_23 => ?_)
    have i_24 : z_23.toInt = 3 * p0.toInt := in_mul ez_23 (by decide) (by decide) hv_p0 (by decide) (by decide)
    have iv_25 : IV z_23 0 9 := iz4 i_24 hv_p0 (by decide) (by decide) (by decide)
    refine k_iadd X dX11_layTold_22 ?_
    refine k_nm (fun z_26 ez_26 => ?_)
    have i_27 : z_26.toInt = 114 + z_23.toInt := in_add ez_26 (show IV 114 114 114 from (by decide)) iv_25 (by decide) (by decide)
    have iv_28 : IV z_26 114 123 := iz2 i_27 iv_25 (by decide) (by decide)
    refine k_iconst (v := 2) X dX11_layTold_23 (by decide) ?_
    refine k_iadd X dX11_layTold_24 ?_
    refine k_nm (fun z_29 ez_29 => ?_)
    have i_30 : z_29.toInt = z_26.toInt + 2 := in_add ez_29 iv_28 (show IV 2 2 2 from (by decide)) (by decide) (by decide)
    have iv_31 : IV z_29 116 125 := iz1 i_30 iv_28 (by decide) (by decide)
    refine k_iald X dX11_layTold_25 1 rfl (iv_in iv_31 (by decide) (by decide)) ?_
    refine k_nm (fun z_32 ez_32 => ?_)
    have i_33 : z_29.toInt = 116 + 3 * p0.toInt := by omega
    have iv_34 : IV z_32 0 40 := rb_116_3 ez_32 hp_d_r i_33 (iv_w hv_p0 (by decide) (by decide))
    refine k_iast [(cO11_i1r1i10r1i2r5i2r12i3r4i2 h0 m_thrown a_tape m_taped m_size m_at m_end m_token m_whole m_nameSize m_fault m_place m_trouble a_letters m_failed m_hasHouse a_r a_fresh a_st a_undone a_kept m_undos m_images a_from a_begin a_motor a_change a_startFrame a_changeFrame a_lostAt a_blackAt a_slips a_leftArc a_died a_arcs m_bestSum m_nearest m_nearestTown a_there a_backAt a_sorted a_parts m_seed1 m_darkNow), (cAI g a_r 311 d_r), (cAI g a_st 44 d_st), (cAI g a_from 8 d_from), (cAI g a_begin 8 d_begin), (cAI g a_motor 8 d_motor), (cAI g a_change 8 d_change), (cAI g a_startFrame 8 d_startFrame), (cAI g a_changeFrame 8 d_changeFrame), (cAI g a_lostAt 8 d_lostAt), (cAI g a_blackAt 8 d_blackAt), (cAI g a_slips 8 (upd uf_1 (u_2 : Int32).toNatClampNeg z_32))] X dX11_layTold_26 11 rfl (iv_in iv_22 (by decide) (by decide)) rfl ?_
    obtain ⟨z_36, ez_36⟩ : ∃ y : Int32, u_2 + Int32.ofInt 1 = y := ⟨_, rfl⟩
    refine k_iinc z_36 [(2, .int z_36), (0, .ref h0), (1, .int p0)] 0 X dX11_layTold_27 rfl ez_36 (by decide) rfl ?_
    have i_37 : z_36.toInt = u_2.toInt + 1 := in_inc ez_36 (by decide) iv_22 (by decide) (by decide)
    have iv_38 : IV z_36 1 8 := iz1 i_37 iv_22 (by decide) (by decide)
    refine k_goto 2 X dX11_layTold_30 (by decide) ?_
    exact ih_7 _ (by omega) ((upd uf_1 (u_2 : Int32).toNatClampNeg z_32)) z_36 rfl (iv_w iv_38 (by decide) (by decide)) (sl_step hx_4 (by omega) (by omega) (by rw [ez_32]; subst_vars; rfl))


set_option maxHeartbeats 4000000 in
set_option maxRecDepth 100000 in
theorem m_carryE (l : Launch) (g : Gx) (h0 : Nat) (p0 : Int32) (p1 : Int32) (m_thrown : Int32) (a_tape : Nat) (m_taped : Int32) (m_size : Int32) (m_at : Int32) (m_end : Int32) (m_token : Int32) (m_whole : Int32) (m_nameSize : Int32) (m_fault : Int32) (m_place : Int32) (m_trouble : Int32) (a_letters : Nat) (m_failed : Int32) (m_hasHouse : Int32) (a_r : Nat) (a_fresh : Nat) (a_st : Nat) (a_undone : Nat) (a_kept : Nat) (m_undos : Int32) (m_images : Int32) (a_from : Nat) (a_begin : Nat) (a_motor : Nat) (a_change : Nat) (a_startFrame : Nat) (a_changeFrame : Nat) (a_lostAt : Nat) (a_blackAt : Nat) (a_slips : Nat) (a_leftArc : Nat) (a_died : Nat) (a_arcs : Nat) (m_bestSum : Int32) (m_nearest : Int32) (m_nearestTown : Int32) (a_there : Nat) (a_backAt : Nat) (a_sorted : Nat) (a_parts : Nat) (m_seed1 : Int32) (m_darkNow : Int32) (d_r : Nat → Int32) (d_st : Nat → Int32) (d_from : Nat → Int32) (d_begin : Nat → Int32) (d_motor : Nat → Int32) (d_change : Nat → Int32) (d_startFrame : Nat → Int32) (d_changeFrame : Nat → Int32) (d_lostAt : Nat → Int32) (d_blackAt : Nat → Int32) (d_slips : Nat → Int32) (d_there : Nat → Int32) (d_backAt : Nat → Int32) (hv_p0 : IV p0 0 3) (hv_p1 : IV p1 0 4) (hp_d_r : RInv d_r) : cV l g yX11_carry cX11_carry 6 5 110 0 0 [.ref h0, .int p0, .int p1] [(cO11_i1r1i10r1i2r5i2r12i3r4i2 h0 m_thrown a_tape m_taped m_size m_at m_end m_token m_whole m_nameSize m_fault m_place m_trouble a_letters m_failed m_hasHouse a_r a_fresh a_st a_undone a_kept m_undos m_images a_from a_begin a_motor a_change a_startFrame a_changeFrame a_lostAt a_blackAt a_slips a_leftArc a_died a_arcs m_bestSum m_nearest m_nearestTown a_there a_backAt a_sorted a_parts m_seed1 m_darkNow), (cAI g a_r 311 d_r), (cAI g a_st 44 d_st), (cAI g a_from 8 d_from), (cAI g a_begin 8 d_begin), (cAI g a_motor 8 d_motor), (cAI g a_change 8 d_change), (cAI g a_startFrame 8 d_startFrame), (cAI g a_changeFrame 8 d_changeFrame), (cAI g a_lostAt 8 d_lostAt), (cAI g a_blackAt 8 d_blackAt), (cAI g a_slips 8 d_slips), (cAI g a_there 8 d_there), (cAI g a_backAt 4 d_backAt)] (fun w => ∃ (d_backAt2 : Nat → Int32) (d_begin2 : Nat → Int32) (d_blackAt2 : Nat → Int32) (d_change2 : Nat → Int32) (d_changeFrame2 : Nat → Int32) (d_from2 : Nat → Int32) (d_lostAt2 : Nat → Int32) (d_motor2 : Nat → Int32) (d_slips2 : Nat → Int32) (d_startFrame2 : Nat → Int32) (d_there2 : Nat → Int32), (∀ j : Nat, (j : Int) < (d_r 12).toInt → d_begin2 j = (fun j => (NS d_r d_st (d_r (114 + 3 * p0 + 2).toNatClampNeg) p0 j).2) j) ∧ (∀ j : Nat, (j : Int) < (d_r 12).toInt → d_there2 j = THF d_r (CHF d_r d_st (d_r (114 + 3 * p0 + 2).toNatClampNeg) p0 (d_r 12 - 1)) p1 j) ∧ w = [(cO11_i1r1i10r1i2r5i2r12i3r4i2 h0 m_thrown a_tape m_taped m_size m_at m_end m_token m_whole m_nameSize m_fault m_place m_trouble a_letters m_failed m_hasHouse a_r a_fresh a_st a_undone a_kept m_undos m_images a_from a_begin a_motor a_change a_startFrame a_changeFrame a_lostAt a_blackAt a_slips a_leftArc a_died a_arcs m_bestSum m_nearest m_nearestTown a_there a_backAt a_sorted a_parts m_seed1 m_darkNow), (cAI g a_r 311 d_r), (cAI g a_st 44 d_st), (cAI g a_from 8 d_from2), (cAI g a_begin 8 d_begin2), (cAI g a_motor 8 d_motor2), (cAI g a_change 8 d_change2), (cAI g a_startFrame 8 d_startFrame2), (cAI g a_changeFrame 8 d_changeFrame2), (cAI g a_lostAt 8 d_lostAt2), (cAI g a_blackAt 8 d_blackAt2), (cAI g a_slips 8 d_slips2), (cAI g a_there 8 d_there2), (cAI g a_backAt 4 d_backAt2)]) := by
  refine cV.of (by decide) (Nat.le_of_ble_eq_true rfl) ?_
  intro p e s m args below meth c A X hr hi
  refine k_lveq [(0, .ref h0), (1, .int p0), (2, .int p1)] rfl ?_
  refine k_aload_n X dX11_carry_0 0 rfl ?_
  refine k_iload_n X dX11_carry_1 1 rfl ?_
  refine k_callVV (n := 1) (As := [.int p0]) (st := []) X [(cO11_i1r1i10r1i2r5i2r12i3r4i2 h0 m_thrown a_tape m_taped m_size m_at m_end m_token m_whole m_nameSize m_fault m_place m_trouble a_letters m_failed m_hasHouse a_r a_fresh a_st a_undone a_kept m_undos m_images a_from a_begin a_motor a_change a_startFrame a_changeFrame a_lostAt a_blackAt a_slips a_leftArc a_died a_arcs m_bestSum m_nearest m_nearestTown a_there a_backAt a_sorted a_parts m_seed1 m_darkNow), (cAI g a_r 311 d_r), (cAI g a_st 44 d_st), (cAI g a_from 8 d_from), (cAI g a_begin 8 d_begin), (cAI g a_motor 8 d_motor), (cAI g a_change 8 d_change), (cAI g a_startFrame 8 d_startFrame), (cAI g a_changeFrame 8 d_changeFrame), (cAI g a_lostAt 8 d_lostAt), (cAI g a_blackAt 8 d_blackAt), (cAI g a_slips 8 d_slips)] [(cAI g a_there 8 d_there), (cAI g a_backAt 4 d_backAt)] [0, 1, 2, 3, 4, 5, 6, 7, 8, 9, 10, 11] [12, 13] (m_layToldE l g h0 p0 m_thrown a_tape m_taped m_size m_at m_end m_token m_whole m_nameSize m_fault m_place m_trouble a_letters m_failed m_hasHouse a_r a_fresh a_st a_undone a_kept m_undos m_images a_from a_begin a_motor a_change a_startFrame a_changeFrame a_lostAt a_blackAt a_slips a_leftArc a_died a_arcs m_bestSum m_nearest m_nearestTown a_there a_backAt a_sorted a_parts m_seed1 m_darkNow d_r d_st d_from d_begin d_motor d_change d_startFrame d_changeFrame d_lostAt d_blackAt d_slips (iv_w hv_p0 (by decide) (by decide)) hp_d_r) dX11_carry_2 mw815 mw816 mw817 mw5 mw818 rfl 11 rfl rfl 0 _ rfl yk_yX11_layTold_1 rfl (Nat.le_of_ble_eq_true rfl) (Nat.le_of_ble_eq_true rfl) (Nat.le_of_ble_eq_true rfl) (Nat.le_of_ble_eq_true rfl) (Nat.le_of_ble_eq_true rfl) rfl rfl (by decide +kernel) rfl (by decide +kernel) (by decide +kernel) ?_
  intro w zq
  refine exE9 zq ?_
  clear zq
  intro d_begin2_1 d_blackAt2_2 d_change2_3 d_changeFrame2_4 d_from2_5 d_lostAt2_6 d_motor2_7 d_slips2_8 d_startFrame2_9 hq_11 zq
  subst zq
  refine k_ws [(cAI g a_there 8 d_there), (cAI g a_backAt 4 d_backAt), (cO11_i1r1i10r1i2r5i2r12i3r4i2 h0 m_thrown a_tape m_taped m_size m_at m_end m_token m_whole m_nameSize m_fault m_place m_trouble a_letters m_failed m_hasHouse a_r a_fresh a_st a_undone a_kept m_undos m_images a_from a_begin a_motor a_change a_startFrame a_changeFrame a_lostAt a_blackAt a_slips a_leftArc a_died a_arcs m_bestSum m_nearest m_nearestTown a_there a_backAt a_sorted a_parts m_seed1 m_darkNow), (cAI g a_r 311 d_r), (cAI g a_st 44 d_st), (cAI g a_from 8 d_from2_5), (cAI g a_begin 8 d_begin2_1), (cAI g a_motor 8 d_motor2_7), (cAI g a_change 8 d_change2_3), (cAI g a_startFrame 8 d_startFrame2_9), (cAI g a_changeFrame 8 d_changeFrame2_4), (cAI g a_lostAt 8 d_lostAt2_6), (cAI g a_blackAt 8 d_blackAt2_2), (cAI g a_slips 8 d_slips2_8)] rfl ?_
  refine k_iconst (v := 0) X dX11_carry_5 (by decide) ?_
  refine k_istore_n [(3, .int 0), (0, .ref h0), (1, .int p0), (2, .int p1)] X dX11_carry_6 (by decide) rfl ?_
  refine (fun hL : ∀ (nn_16 : Nat) (uf_12 : Nat → Int32) (u_13 : Int32), (4 - u_13.toInt).toNat = nn_16 → (IV u_13 0 8) → (∀ i : Nat, i < u_13.toInt.toNat → uf_12 i = 0) → Wk p l e _ s m args below meth c _ A g _ _ _ [(cAI g a_there 8 d_there), (cAI g a_backAt 4 uf_12), (cO11_i1r1i10r1i2r5i2r12i3r4i2 h0 m_thrown a_tape m_taped m_size m_at m_end m_token m_whole m_nameSize m_fault m_place m_trouble a_letters m_failed m_hasHouse a_r a_fresh a_st a_undone a_kept m_undos m_images a_from a_begin a_motor a_change a_startFrame a_changeFrame a_lostAt a_blackAt a_slips a_leftArc a_died a_arcs m_bestSum m_nearest m_nearestTown a_there a_backAt a_sorted a_parts m_seed1 m_darkNow), (cAI g a_r 311 d_r), (cAI g a_st 44 d_st), (cAI g a_from 8 d_from2_5), (cAI g a_begin 8 d_begin2_1), (cAI g a_motor 8 d_motor2_7), (cAI g a_change 8 d_change2_3), (cAI g a_startFrame 8 d_startFrame2_9), (cAI g a_changeFrame 8 d_changeFrame2_4), (cAI g a_lostAt 8 d_lostAt2_6), (cAI g a_blackAt 8 d_blackAt2_2), (cAI g a_slips 8 d_slips2_8)] [(3, .int u_13), (0, .ref h0), (1, .int p0), (2, .int p1)] 7 [] => hL _ d_backAt 0 rfl (iv_w (show IV 0 0 0 from (by decide)) (by decide) (by decide)) (fun i q => absurd q (by rw [zI]; exact Nat.not_lt_zero _))) ?_
  refine fun nn_16 => Nat.strongRecOn nn_16 (fun nn_16 ih_18 => ?_)
  intro uf_12 u_13 hm_17 hv_14 hx_15
  refine k_iload_n X dX11_carry_7 0 rfl ?_
  refine k_iconst (v := 4) X dX11_carry_8 (by decide) ?_
  refine k_ic_ge 25 X dX11_carry_9 (by decide) (fun h_19 => ?_) (fun h_19 => ?_)
  · skip
    have j_20 : 4 ≤ u_13.toInt := iv_le h_19
    have iv_21 : IV u_13 4 8 := iv_leR (iv_le h_19) (show IV 4 4 4 from (by decide)) hv_14 (by decide)
    refine k_iconst (v := 0) X dX11_carry_25 (by decide) ?_
    refine k_istore_n [(3, .int 0), (0, .ref h0), (1, .int p0), (2, .int p1)] X dX11_carry_26 (by decide) rfl ?_
    refine (fun hL : ∀ (nn_28 : Nat) (uf_22 : Nat → Int32) (uf_23 : Nat → Int32) (u_24 : Int32), (2147483647 - u_24.toInt).toNat = nn_28 → (IV u_24 0 8) → (∀ j : Nat, (j : Int) < u_24.toInt → uf_23 j = THF d_r (CHF d_r d_st (d_r (114 + 3 * p0 + 2).toNatClampNeg) p0 (d_r 12 - 1)) p1 j) → (∀ i : Nat, i < 4 → uf_22 i = BKF d_r (CHF d_r d_st (d_r (114 + 3 * p0 + 2).toNatClampNeg) p0 (d_r 12 - 1)) p1 u_24.toInt.toNat i) → Wk p l e _ s m args below meth c _ A g _ _ _ [(cAI g a_there 8 uf_23), (cAI g a_backAt 4 uf_22), (cO11_i1r1i10r1i2r5i2r12i3r4i2 h0 m_thrown a_tape m_taped m_size m_at m_end m_token m_whole m_nameSize m_fault m_place m_trouble a_letters m_failed m_hasHouse a_r a_fresh a_st a_undone a_kept m_undos m_images a_from a_begin a_motor a_change a_startFrame a_changeFrame a_lostAt a_blackAt a_slips a_leftArc a_died a_arcs m_bestSum m_nearest m_nearestTown a_there a_backAt a_sorted a_parts m_seed1 m_darkNow), (cAI g a_r 311 d_r), (cAI g a_st 44 d_st), (cAI g a_from 8 d_from2_5), (cAI g a_begin 8 d_begin2_1), (cAI g a_motor 8 d_motor2_7), (cAI g a_change 8 d_change2_3), (cAI g a_startFrame 8 d_startFrame2_9), (cAI g a_changeFrame 8 d_changeFrame2_4), (cAI g a_lostAt 8 d_lostAt2_6), (cAI g a_blackAt 8 d_blackAt2_2), (cAI g a_slips 8 d_slips2_8)] [(3, .int u_24), (0, .ref h0), (1, .int p0), (2, .int p1)] 27 [] => hL _ uf_12 d_there 0 rfl (iv_w (show IV 0 0 0 from (by decide)) (by decide) (by decide)) (fun j q => absurd q (by rw [zI]; omega)) (fun i q => hx_15 i (by omega))) ?_
    refine fun nn_28 => Nat.strongRecOn nn_28 (fun nn_28 ih_30 => ?_)
    intro uf_22 uf_23 u_24 hm_29 hv_25 hT_26 hB_27
    refine k_iload_n X dX11_carry_27 0 rfl ?_
    refine k_aload_n X dX11_carry_28 1 rfl ?_
    refine k_get (ci := 11) X inlX11 rfl 15 (by decide) dX11_carry_29 mw170 2 rfl rfl ?_
    refine k_bipush (v := 12) X dX11_carry_32 (by decide) ?_
    refine k_iald X dX11_carry_34 3 rfl (by unfold vp_in; decide) ?_
    refine k_nm (fun z_31 ez_31 => ?_)
    have i_32 : z_31.toInt = (d_r 12).toInt := by rw [ez_31]; rfl
    have iv_33 : IV z_31 0 8 := rb_12 ez_31 hp_d_r
    refine k_ic_ge 145 X dX11_carry_35 (by decide) (fun h_34 => ?_) (fun h_34 => ?_)
    · skip
      have j_35 : z_31.toInt ≤ u_24.toInt := iv_le h_34
      exact k_vret X hr dX11_carry_145 (Nat.le_of_ble_eq_true rfl) (Nat.le_of_ble_eq_true rfl) [2, 3, 4, 5, 6, 7, 8, 9, 10, 11, 12, 13, 0, 1] (by decide) rfl rfl ⟨uf_22, d_begin2_1, d_blackAt2_2, d_change2_3, d_changeFrame2_4, d_from2_5, d_lostAt2_6, d_motor2_7, d_slips2_8, d_startFrame2_9, uf_23, (fun j q => (hq_11 j q).1), (fun j q => hT_26 j (by omega)), rfl⟩
    · skip
      have j_36 : u_24.toInt < z_31.toInt := iv_nle h_34
      have iv_37 : IV u_24 0 7 := iv_ltL (iv_nle h_34) hv_25 iv_33 (by decide)
      have iv_38 : IV z_31 1 8 := iv_ltR (iv_nle h_34) hv_25 iv_33 (by decide)
      refine k_iconst (v := 0) X dX11_carry_38 (by decide) ?_
      refine k_istore [(4, .int 0), (3, .int u_24), (0, .ref h0), (1, .int p0), (2, .int p1)] X dX11_carry_39 (by decide) rfl ?_
      refine k_iconst (v := 1) X dX11_carry_41 (by decide) ?_
      refine k_istore [(5, .int 1), (4, .int 0), (3, .int u_24), (0, .ref h0), (1, .int p0), (2, .int p1)] X dX11_carry_42 (by decide) rfl ?_
      refine (fun hL : ∀ (nn_44 : Nat) (u_39 : Int32) (u_41 : Int32), (p1.toInt - u_41.toInt).toNat = nn_44 → (IV u_39 0 3) → (IV u_41 1 8) → (byF uf_22 (p1.toInt - 1).toNat 1 0 = byF uf_22 (p1.toInt - u_41.toInt).toNat u_41 u_39) → Wk p l e _ s m args below meth c _ A g _ _ _ [(cAI g a_there 8 uf_23), (cAI g a_backAt 4 uf_22), (cO11_i1r1i10r1i2r5i2r12i3r4i2 h0 m_thrown a_tape m_taped m_size m_at m_end m_token m_whole m_nameSize m_fault m_place m_trouble a_letters m_failed m_hasHouse a_r a_fresh a_st a_undone a_kept m_undos m_images a_from a_begin a_motor a_change a_startFrame a_changeFrame a_lostAt a_blackAt a_slips a_leftArc a_died a_arcs m_bestSum m_nearest m_nearestTown a_there a_backAt a_sorted a_parts m_seed1 m_darkNow), (cAI g a_r 311 d_r), (cAI g a_st 44 d_st), (cAI g a_from 8 d_from2_5), (cAI g a_begin 8 d_begin2_1), (cAI g a_motor 8 d_motor2_7), (cAI g a_change 8 d_change2_3), (cAI g a_startFrame 8 d_startFrame2_9), (cAI g a_changeFrame 8 d_changeFrame2_4), (cAI g a_lostAt 8 d_lostAt2_6), (cAI g a_blackAt 8 d_blackAt2_2), (cAI g a_slips 8 d_slips2_8)] [(5, .int u_41), (4, .int u_39), (3, .int u_24), (0, .ref h0), (1, .int p0), (2, .int p1)] 44 [] => hL _ 0 1 rfl (iv_w (show IV 0 0 0 from (by decide)) (by decide) (by decide)) (iv_w (show IV 1 1 1 from (by decide)) (by decide) (by decide)) (by rw [oneI])) ?_
      refine fun nn_44 => Nat.strongRecOn nn_44 (fun nn_44 ih_46 => ?_)
      intro u_39 u_41 hm_45 hv_40 hv_42 hy_43
      refine k_iload X dX11_carry_44 0 rfl ?_
      refine k_iload_n X dX11_carry_46 5 rfl ?_
      refine k_ic_ge 82 X dX11_carry_47 (by decide) (fun h_47 => ?_) (fun h_47 => ?_)
      · skip
        have j_48 : p1.toInt ≤ u_41.toInt := iv_le h_47
        have hy_49 : u_39 = byF uf_22 (p1.toInt - 1).toNat 1 0 := by_end hy_43 (by omega)
        refine k_aload_n X dX11_carry_82 3 rfl ?_
        refine k_get (ci := 11) X inlX11 rfl 25 (by decide) dX11_carry_83 mw178 2 rfl rfl ?_
        refine k_iload_n X dX11_carry_86 2 rfl ?_
        refine k_iald X dX11_carry_87 8 rfl (iv_in iv_37 (by decide) (by decide)) ?_
        refine k_nm (fun z_50 ez_50 => ?_)
        refine k_aload_n X dX11_carry_88 3 rfl ?_
        refine k_get (ci := 11) X inlX11 rfl 38 (by decide) dX11_carry_89 mw188 2 rfl rfl ?_
        refine k_iload X dX11_carry_92 1 rfl ?_
        refine k_iald X dX11_carry_94 1 rfl (iv_in hv_40 (by decide) (by decide)) ?_
        refine k_nm (fun z_51 ez_51 => ?_)
        refine k_callSI (n := 2) (As := [.int z_50, .int z_51]) (st := []) X [] [(cAI g a_there 8 uf_23), (cAI g a_backAt 4 uf_22), (cO11_i1r1i10r1i2r5i2r12i3r4i2 h0 m_thrown a_tape m_taped m_size m_at m_end m_token m_whole m_nameSize m_fault m_place m_trouble a_letters m_failed m_hasHouse a_r a_fresh a_st a_undone a_kept m_undos m_images a_from a_begin a_motor a_change a_startFrame a_changeFrame a_lostAt a_blackAt a_slips a_leftArc a_died a_arcs m_bestSum m_nearest m_nearestTown a_there a_backAt a_sorted a_parts m_seed1 m_darkNow), (cAI g a_r 311 d_r), (cAI g a_st 44 d_st), (cAI g a_from 8 d_from2_5), (cAI g a_begin 8 d_begin2_1), (cAI g a_motor 8 d_motor2_7), (cAI g a_change 8 d_change2_3), (cAI g a_startFrame 8 d_startFrame2_9), (cAI g a_changeFrame 8 d_changeFrame2_4), (cAI g a_lostAt 8 d_lostAt2_6), (cAI g a_blackAt 8 d_blackAt2_2), (cAI g a_slips 8 d_slips2_8)] [] [0, 1, 2, 3, 4, 5, 6, 7, 8, 9, 10, 11, 12, 13] (m_mostE l g z_50 z_51) dX11_carry_95 mw842 mw843 mw5 mw844 yk_yX11_most_2 rfl (Nat.le_of_ble_eq_true rfl) (Nat.le_of_ble_eq_true rfl) (Nat.le_of_ble_eq_true rfl) (Nat.le_of_ble_eq_true rfl) (Nat.le_of_ble_eq_true rfl) rfl rfl (by decide +kernel) rfl (by decide +kernel) (by decide +kernel) ?_
        rintro r_52 w ⟨hq_53, rfl⟩
        refine k_ws [(cAI g a_there 8 uf_23), (cAI g a_backAt 4 uf_22), (cO11_i1r1i10r1i2r5i2r12i3r4i2 h0 m_thrown a_tape m_taped m_size m_at m_end m_token m_whole m_nameSize m_fault m_place m_trouble a_letters m_failed m_hasHouse a_r a_fresh a_st a_undone a_kept m_undos m_images a_from a_begin a_motor a_change a_startFrame a_changeFrame a_lostAt a_blackAt a_slips a_leftArc a_died a_arcs m_bestSum m_nearest m_nearestTown a_there a_backAt a_sorted a_parts m_seed1 m_darkNow), (cAI g a_r 311 d_r), (cAI g a_st 44 d_st), (cAI g a_from 8 d_from2_5), (cAI g a_begin 8 d_begin2_1), (cAI g a_motor 8 d_motor2_7), (cAI g a_change 8 d_change2_3), (cAI g a_startFrame 8 d_startFrame2_9), (cAI g a_changeFrame 8 d_changeFrame2_4), (cAI g a_lostAt 8 d_lostAt2_6), (cAI g a_blackAt 8 d_blackAt2_2), (cAI g a_slips 8 d_slips2_8)] rfl ?_
        refine k_istore [(5, .int r_52), (4, .int u_39), (3, .int u_24), (0, .ref h0), (1, .int p0), (2, .int p1)] X dX11_carry_98 (by decide) rfl ?_
        refine k_aload_n X dX11_carry_100 3 rfl ?_
        refine k_get (ci := 11) X inlX11 rfl 37 (by decide) dX11_carry_101 mw187 2 rfl rfl ?_
        refine k_iload_n X dX11_carry_104 2 rfl ?_
        refine k_iload X dX11_carry_105 0 rfl ?_
        refine k_aload_n X dX11_carry_107 3 rfl ?_
        refine k_get (ci := 11) X inlX11 rfl 15 (by decide) dX11_carry_108 mw170 2 rfl rfl ?_
        refine k_sipush (v := 135) X dX11_carry_111 (by decide) ?_
        refine k_iald X dX11_carry_114 3 rfl (by unfold vp_in; decide) ?_
        refine k_nm (fun z_54 ez_54 => ?_)
        refine k_iadd X dX11_carry_115 ?_
        refine k_nm (fun z_55 ez_55 => ?_)
        refine k_iast [(cAI g a_there 8 (upd uf_23 (u_24 : Int32).toNatClampNeg z_55)), (cAI g a_backAt 4 uf_22), (cO11_i1r1i10r1i2r5i2r12i3r4i2 h0 m_thrown a_tape m_taped m_size m_at m_end m_token m_whole m_nameSize m_fault m_place m_trouble a_letters m_failed m_hasHouse a_r a_fresh a_st a_undone a_kept m_undos m_images a_from a_begin a_motor a_change a_startFrame a_changeFrame a_lostAt a_blackAt a_slips a_leftArc a_died a_arcs m_bestSum m_nearest m_nearestTown a_there a_backAt a_sorted a_parts m_seed1 m_darkNow), (cAI g a_r 311 d_r), (cAI g a_st 44 d_st), (cAI g a_from 8 d_from2_5), (cAI g a_begin 8 d_begin2_1), (cAI g a_motor 8 d_motor2_7), (cAI g a_change 8 d_change2_3), (cAI g a_startFrame 8 d_startFrame2_9), (cAI g a_changeFrame 8 d_changeFrame2_4), (cAI g a_lostAt 8 d_lostAt2_6), (cAI g a_blackAt 8 d_blackAt2_2), (cAI g a_slips 8 d_slips2_8)] X dX11_carry_116 0 rfl (iv_in iv_37 (by decide) (by decide)) rfl ?_
        refine k_aload_n X dX11_carry_117 3 rfl ?_
        refine k_get (ci := 11) X inlX11 rfl 38 (by decide) dX11_carry_118 mw188 2 rfl rfl ?_
        refine k_iload X dX11_carry_121 1 rfl ?_
        refine k_aload_n X dX11_carry_123 3 rfl ?_
        refine k_get (ci := 11) X inlX11 rfl 37 (by decide) dX11_carry_124 mw187 2 rfl rfl ?_
        refine k_iload_n X dX11_carry_127 2 rfl ?_
        refine k_iald X dX11_carry_128 0 rfl (iv_in iv_37 (by decide) (by decide)) ?_
        refine k_to z_55 upd_at ?_
        refine k_aload_n X dX11_carry_129 3 rfl ?_
        refine k_get (ci := 11) X inlX11 rfl 15 (by decide) dX11_carry_130 mw170 2 rfl rfl ?_
        refine k_sipush (v := 135) X dX11_carry_133 (by decide) ?_
        refine k_iald X dX11_carry_136 3 rfl (by unfold vp_in; decide) ?_
        refine k_to z_54 ez_54.symm ?_
        refine k_iadd X dX11_carry_137 ?_
        refine k_nm (fun z_58 ez_58 => ?_)
        refine k_iast [(cAI g a_there 8 (upd uf_23 (u_24 : Int32).toNatClampNeg z_55)), (cAI g a_backAt 4 (upd uf_22 (u_39 : Int32).toNatClampNeg z_58)), (cO11_i1r1i10r1i2r5i2r12i3r4i2 h0 m_thrown a_tape m_taped m_size m_at m_end m_token m_whole m_nameSize m_fault m_place m_trouble a_letters m_failed m_hasHouse a_r a_fresh a_st a_undone a_kept m_undos m_images a_from a_begin a_motor a_change a_startFrame a_changeFrame a_lostAt a_blackAt a_slips a_leftArc a_died a_arcs m_bestSum m_nearest m_nearestTown a_there a_backAt a_sorted a_parts m_seed1 m_darkNow), (cAI g a_r 311 d_r), (cAI g a_st 44 d_st), (cAI g a_from 8 d_from2_5), (cAI g a_begin 8 d_begin2_1), (cAI g a_motor 8 d_motor2_7), (cAI g a_change 8 d_change2_3), (cAI g a_startFrame 8 d_startFrame2_9), (cAI g a_changeFrame 8 d_changeFrame2_4), (cAI g a_lostAt 8 d_lostAt2_6), (cAI g a_blackAt 8 d_blackAt2_2), (cAI g a_slips 8 d_slips2_8)] X dX11_carry_138 1 rfl (iv_in hv_40 (by decide) (by decide)) rfl ?_
        obtain ⟨z_61, ez_61⟩ : ∃ y : Int32, u_24 + Int32.ofInt 1 = y := ⟨_, rfl⟩
        refine k_iinc z_61 [(3, .int z_61), (5, .int r_52), (4, .int u_39), (0, .ref h0), (1, .int p0), (2, .int p1)] 2 X dX11_carry_139 rfl ez_61 (by decide) rfl ?_
        have i_62 : z_61.toInt = u_24.toInt + 1 := in_inc ez_61 (by decide) iv_37 (by decide) (by decide)
        have iv_63 : IV z_61 1 8 := iz1 i_62 iv_37 (by decide) (by decide)
        refine k_goto 27 X dX11_carry_142 (by decide) ?_
        refine k_lv [(3, .int z_61), (0, .ref h0), (1, .int p0), (2, .int p1)] [0, 3, 4, 5] rfl ?_
        exact ih_30 _ (by omega) ((upd uf_22 (u_39 : Int32).toNatClampNeg z_58)) ((upd uf_23 (u_24 : Int32).toNatClampNeg z_55)) z_61 rfl (iv_w iv_63 (by decide) (by decide)) (th_step hT_26 hB_27 (fun j q => (hq_11 j q).2) (by omega) (by omega) (by omega) hv_p1 hy_49 (by assumption) (by assumption) (by assumption) (by assumption) (by assumption)) (bk_step hB_27 (fun j q => (hq_11 j q).2) (by omega) (by omega) (by omega) hv_p1 hy_49 (by assumption) (by assumption) (by assumption) (by assumption) (by assumption) (by assumption))
      · skip
        have j_64 : u_41.toInt < p1.toInt := iv_nle h_47
        have iv_65 : IV u_41 1 3 := iv_ltL (iv_nle h_47) hv_42 hv_p1 (by decide)
        have iv_66 : IV p1 2 4 := iv_ltR (iv_nle h_47) hv_42 hv_p1 (by decide)
        refine k_aload_n X dX11_carry_50 3 rfl ?_
        refine k_get (ci := 11) X inlX11 rfl 38 (by decide) dX11_carry_51 mw188 2 rfl rfl ?_
        refine k_iload X dX11_carry_54 0 rfl ?_
        refine k_iald X dX11_carry_56 1 rfl (iv_in iv_65 (by decide) (by decide)) ?_
        refine k_nm (fun z_67 ez_67 => ?_)
        refine k_aload_n X dX11_carry_57 3 rfl ?_
        refine k_get (ci := 11) X inlX11 rfl 38 (by decide) dX11_carry_58 mw188 2 rfl rfl ?_
        refine k_iload X dX11_carry_61 1 rfl ?_
        refine k_iald X dX11_carry_63 1 rfl (iv_in hv_40 (by decide) (by decide)) ?_
        refine k_nm (fun z_68 ez_68 => ?_)
        refine k_ic_ge 72 X dX11_carry_64 (by decide) (fun h_69 => ?_) (fun h_69 => ?_)
        · skip
          have j_70 : z_68.toInt ≤ z_67.toInt := iv_le h_69
          refine k_iload X dX11_carry_72 1 rfl ?_
          refine k_istore [(4, .int u_39), (5, .int u_41), (3, .int u_24), (0, .ref h0), (1, .int p0), (2, .int p1)] X dX11_carry_74 (by decide) rfl ?_
          obtain ⟨z_71, ez_71⟩ : ∃ y : Int32, u_41 + Int32.ofInt 1 = y := ⟨_, rfl⟩
          refine k_iinc z_71 [(5, .int z_71), (4, .int u_39), (3, .int u_24), (0, .ref h0), (1, .int p0), (2, .int p1)] 1 X dX11_carry_76 rfl ez_71 (by decide) rfl ?_
          have i_72 : z_71.toInt = u_41.toInt + 1 := in_inc ez_71 (by decide) iv_65 (by decide) (by decide)
          have iv_73 : IV z_71 2 4 := iz1 i_72 iv_65 (by decide) (by decide)
          refine k_goto 44 X dX11_carry_79 (by decide) ?_
          exact ih_46 _ (by omega) u_39 z_71 rfl (iv_w hv_40 (by decide) (by decide)) (iv_w iv_73 (by decide) (by decide)) (by_step hy_43 (by omega) (by assumption) (by omega) (by subst_vars; first | rw [if_neg (Int32.not_lt.mpr (by assumption))] | rw [if_pos (Int32.not_le.mp (by assumption))]))
        · skip
          have j_74 : z_67.toInt < z_68.toInt := iv_nle h_69
          have iv_75 : IV z_67 (-2147483648) 2147483646 := iv_ltL (iv_nle h_69) (iv_any z_67) (iv_any z_68) (by decide)
          have iv_76 : IV z_68 (-2147483647) 2147483647 := iv_ltR (iv_nle h_69) (iv_any z_67) (iv_any z_68) (by decide)
          refine k_iload X dX11_carry_67 0 rfl ?_
          refine k_goto 74 X dX11_carry_69 (by decide) ?_
          refine k_istore [(4, .int u_41), (5, .int u_41), (3, .int u_24), (0, .ref h0), (1, .int p0), (2, .int p1)] X dX11_carry_74 (by decide) rfl ?_
          obtain ⟨z_77, ez_77⟩ : ∃ y : Int32, u_41 + Int32.ofInt 1 = y := ⟨_, rfl⟩
          refine k_iinc z_77 [(5, .int z_77), (4, .int u_41), (3, .int u_24), (0, .ref h0), (1, .int p0), (2, .int p1)] 1 X dX11_carry_76 rfl ez_77 (by decide) rfl ?_
          have i_78 : z_77.toInt = u_41.toInt + 1 := in_inc ez_77 (by decide) iv_65 (by decide) (by decide)
          have iv_79 : IV z_77 2 4 := iz1 i_78 iv_65 (by decide) (by decide)
          refine k_goto 44 X dX11_carry_79 (by decide) ?_
          exact ih_46 _ (by omega) u_41 z_77 rfl (iv_w iv_65 (by decide) (by decide)) (iv_w iv_79 (by decide) (by decide)) (by_step hy_43 (by omega) (by assumption) (by omega) (by subst_vars; first | rw [if_neg (Int32.not_lt.mpr (by assumption))] | rw [if_pos (Int32.not_le.mp (by assumption))]))
  · skip
    have j_80 : u_13.toInt < 4 := iv_nle h_19
    have iv_81 : IV u_13 0 3 := iv_ltL (iv_nle h_19) hv_14 (show IV 4 4 4 from (by decide)) (by decide)
    refine k_aload_n X dX11_carry_12 1 rfl ?_
    refine k_get (ci := 11) X inlX11 rfl 38 (by decide) dX11_carry_13 mw188 2 rfl rfl ?_
    refine k_iload_n X dX11_carry_16 0 rfl ?_
    refine k_iconst (v := 0) X dX11_carry_17 (by decide) ?_
    refine k_iast [(cAI g a_there 8 d_there), (cAI g a_backAt 4 (upd uf_12 (u_13 : Int32).toNatClampNeg 0)), (cO11_i1r1i10r1i2r5i2r12i3r4i2 h0 m_thrown a_tape m_taped m_size m_at m_end m_token m_whole m_nameSize m_fault m_place m_trouble a_letters m_failed m_hasHouse a_r a_fresh a_st a_undone a_kept m_undos m_images a_from a_begin a_motor a_change a_startFrame a_changeFrame a_lostAt a_blackAt a_slips a_leftArc a_died a_arcs m_bestSum m_nearest m_nearestTown a_there a_backAt a_sorted a_parts m_seed1 m_darkNow), (cAI g a_r 311 d_r), (cAI g a_st 44 d_st), (cAI g a_from 8 d_from2_5), (cAI g a_begin 8 d_begin2_1), (cAI g a_motor 8 d_motor2_7), (cAI g a_change 8 d_change2_3), (cAI g a_startFrame 8 d_startFrame2_9), (cAI g a_changeFrame 8 d_changeFrame2_4), (cAI g a_lostAt 8 d_lostAt2_6), (cAI g a_blackAt 8 d_blackAt2_2), (cAI g a_slips 8 d_slips2_8)] X dX11_carry_18 1 rfl (iv_in iv_81 (by decide) (by decide)) rfl ?_
    obtain ⟨z_83, ez_83⟩ : ∃ y : Int32, u_13 + Int32.ofInt 1 = y := ⟨_, rfl⟩
    refine k_iinc z_83 [(3, .int z_83), (0, .ref h0), (1, .int p0), (2, .int p1)] 0 X dX11_carry_19 rfl ez_83 (by decide) rfl ?_
    have i_84 : z_83.toInt = u_13.toInt + 1 := in_inc ez_83 (by decide) iv_81 (by decide) (by decide)
    have iv_85 : IV z_83 1 4 := iz1 i_84 iv_81 (by decide) (by decide)
    refine k_goto 7 X dX11_carry_22 (by decide) ?_
    exact ih_18 _ (by omega) ((upd uf_12 (u_13 : Int32).toNatClampNeg 0)) z_83 rfl (iv_w iv_85 (by decide) (by decide)) (sl_step hx_15 (by omega) (by omega) rfl)


set_option maxHeartbeats 4000000 in
set_option maxRecDepth 100000 in
theorem m_apartOfE (l : Launch) (g : Gx) (h0 : Nat) (p0 : Int32) (p1 : Int32) (m_thrown : Int32) (a_tape : Nat) (m_taped : Int32) (m_size : Int32) (m_at : Int32) (m_end : Int32) (m_token : Int32) (m_whole : Int32) (m_nameSize : Int32) (m_fault : Int32) (m_place : Int32) (m_trouble : Int32) (a_letters : Nat) (m_failed : Int32) (m_hasHouse : Int32) (a_r : Nat) (a_fresh : Nat) (a_st : Nat) (a_undone : Nat) (a_kept : Nat) (m_undos : Int32) (m_images : Int32) (a_from : Nat) (a_begin : Nat) (a_motor : Nat) (a_change : Nat) (a_startFrame : Nat) (a_changeFrame : Nat) (a_lostAt : Nat) (a_blackAt : Nat) (a_slips : Nat) (a_leftArc : Nat) (a_died : Nat) (a_arcs : Nat) (m_bestSum : Int32) (m_nearest : Int32) (m_nearestTown : Int32) (a_there : Nat) (a_backAt : Nat) (a_sorted : Nat) (a_parts : Nat) (m_seed1 : Int32) (m_darkNow : Int32) (d_r : Nat → Int32) (d_st : Nat → Int32) (d_from : Nat → Int32) (d_begin : Nat → Int32) (d_motor : Nat → Int32) (d_change : Nat → Int32) (d_startFrame : Nat → Int32) (d_changeFrame : Nat → Int32) (d_lostAt : Nat → Int32) (d_blackAt : Nat → Int32) (d_slips : Nat → Int32) (d_there : Nat → Int32) (d_backAt : Nat → Int32) (hv_p0 : IV p0 0 3) (hv_p1 : IV p1 0 4) (hp_d_r : RInv d_r) : cI l g yX11_apartOf cX11_apartOf 5 (some .int) 6 135 0 0 [.ref h0, .int p0, .int p1] [(cO11_i1r1i10r1i2r5i2r12i3r4i2 h0 m_thrown a_tape m_taped m_size m_at m_end m_token m_whole m_nameSize m_fault m_place m_trouble a_letters m_failed m_hasHouse a_r a_fresh a_st a_undone a_kept m_undos m_images a_from a_begin a_motor a_change a_startFrame a_changeFrame a_lostAt a_blackAt a_slips a_leftArc a_died a_arcs m_bestSum m_nearest m_nearestTown a_there a_backAt a_sorted a_parts m_seed1 m_darkNow), (cAI g a_r 311 d_r), (cAI g a_st 44 d_st), (cAI g a_from 8 d_from), (cAI g a_begin 8 d_begin), (cAI g a_motor 8 d_motor), (cAI g a_change 8 d_change), (cAI g a_startFrame 8 d_startFrame), (cAI g a_changeFrame 8 d_changeFrame), (cAI g a_lostAt 8 d_lostAt), (cAI g a_blackAt 8 d_blackAt), (cAI g a_slips 8 d_slips), (cAI g a_there 8 d_there), (cAI g a_backAt 4 d_backAt)] (fun r w => ∃ (d_backAt2 : Nat → Int32) (d_begin2 : Nat → Int32) (d_blackAt2 : Nat → Int32) (d_change2 : Nat → Int32) (d_changeFrame2 : Nat → Int32) (d_from2 : Nat → Int32) (d_lostAt2 : Nat → Int32) (d_motor2 : Nat → Int32) (d_slips2 : Nat → Int32) (d_startFrame2 : Nat → Int32) (d_there2 : Nat → Int32), (r = apF d_r (CHF d_r d_st (d_r (114 + 3 * p0 + 2).toNatClampNeg) p0 (d_r 12 - 1)) (fun j => (NS d_r d_st (d_r (114 + 3 * p0 + 2).toNatClampNeg) p0 j).2) p1 (d_r 12).toInt.toNat 0 0) ∧ w = [(cO11_i1r1i10r1i2r5i2r12i3r4i2 h0 m_thrown a_tape m_taped m_size m_at m_end m_token m_whole m_nameSize m_fault m_place m_trouble a_letters m_failed m_hasHouse a_r a_fresh a_st a_undone a_kept m_undos m_images a_from a_begin a_motor a_change a_startFrame a_changeFrame a_lostAt a_blackAt a_slips a_leftArc a_died a_arcs m_bestSum m_nearest m_nearestTown a_there a_backAt a_sorted a_parts m_seed1 m_darkNow), (cAI g a_r 311 d_r), (cAI g a_st 44 d_st), (cAI g a_from 8 d_from2), (cAI g a_begin 8 d_begin2), (cAI g a_motor 8 d_motor2), (cAI g a_change 8 d_change2), (cAI g a_startFrame 8 d_startFrame2), (cAI g a_changeFrame 8 d_changeFrame2), (cAI g a_lostAt 8 d_lostAt2), (cAI g a_blackAt 8 d_blackAt2), (cAI g a_slips 8 d_slips2), (cAI g a_there 8 d_there2), (cAI g a_backAt 4 d_backAt2)]) := by
  refine cI.of (by decide) (Nat.le_of_ble_eq_true rfl) ?_
  intro p e s m args below meth c A X hr hi
  refine k_lveq [(0, .ref h0), (1, .int p0), (2, .int p1)] rfl ?_
  refine k_aload_n X dX11_apartOf_0 0 rfl ?_
  refine k_iload_n X dX11_apartOf_1 1 rfl ?_
  refine k_iload_n X dX11_apartOf_2 2 rfl ?_
  refine k_callVV (n := 2) (As := [.int p0, .int p1]) (st := []) X [(cO11_i1r1i10r1i2r5i2r12i3r4i2 h0 m_thrown a_tape m_taped m_size m_at m_end m_token m_whole m_nameSize m_fault m_place m_trouble a_letters m_failed m_hasHouse a_r a_fresh a_st a_undone a_kept m_undos m_images a_from a_begin a_motor a_change a_startFrame a_changeFrame a_lostAt a_blackAt a_slips a_leftArc a_died a_arcs m_bestSum m_nearest m_nearestTown a_there a_backAt a_sorted a_parts m_seed1 m_darkNow), (cAI g a_r 311 d_r), (cAI g a_st 44 d_st), (cAI g a_from 8 d_from), (cAI g a_begin 8 d_begin), (cAI g a_motor 8 d_motor), (cAI g a_change 8 d_change), (cAI g a_startFrame 8 d_startFrame), (cAI g a_changeFrame 8 d_changeFrame), (cAI g a_lostAt 8 d_lostAt), (cAI g a_blackAt 8 d_blackAt), (cAI g a_slips 8 d_slips), (cAI g a_there 8 d_there), (cAI g a_backAt 4 d_backAt)] [] [0, 1, 2, 3, 4, 5, 6, 7, 8, 9, 10, 11, 12, 13] [] (m_carryE l g h0 p0 p1 m_thrown a_tape m_taped m_size m_at m_end m_token m_whole m_nameSize m_fault m_place m_trouble a_letters m_failed m_hasHouse a_r a_fresh a_st a_undone a_kept m_undos m_images a_from a_begin a_motor a_change a_startFrame a_changeFrame a_lostAt a_blackAt a_slips a_leftArc a_died a_arcs m_bestSum m_nearest m_nearestTown a_there a_backAt a_sorted a_parts m_seed1 m_darkNow d_r d_st d_from d_begin d_motor d_change d_startFrame d_changeFrame d_lostAt d_blackAt d_slips d_there d_backAt (iv_w hv_p0 (by decide) (by decide)) (iv_w hv_p1 (by decide) (by decide)) hp_d_r) dX11_apartOf_3 mw1323 mw1324 mw1325 mw5 mw1326 rfl 11 rfl rfl 0 _ rfl yk_yX11_carry_2 rfl (Nat.le_of_ble_eq_true rfl) (Nat.le_of_ble_eq_true rfl) (Nat.le_of_ble_eq_true rfl) (Nat.le_of_ble_eq_true rfl) (Nat.le_of_ble_eq_true rfl) rfl rfl (by decide +kernel) rfl (by decide +kernel) (by decide +kernel) ?_
  intro w zq
  refine exE11 zq ?_
  clear zq
  intro d_backAt2_1 d_begin2_2 d_blackAt2_3 d_change2_4 d_changeFrame2_5 d_from2_6 d_lostAt2_7 d_motor2_8 d_slips2_9 d_startFrame2_10 d_there2_11 hq_13 zq
  refine exA1 zq ?_
  clear zq
  intro hq_14 zq
  subst zq
  refine k_ws [(cO11_i1r1i10r1i2r5i2r12i3r4i2 h0 m_thrown a_tape m_taped m_size m_at m_end m_token m_whole m_nameSize m_fault m_place m_trouble a_letters m_failed m_hasHouse a_r a_fresh a_st a_undone a_kept m_undos m_images a_from a_begin a_motor a_change a_startFrame a_changeFrame a_lostAt a_blackAt a_slips a_leftArc a_died a_arcs m_bestSum m_nearest m_nearestTown a_there a_backAt a_sorted a_parts m_seed1 m_darkNow), (cAI g a_r 311 d_r), (cAI g a_st 44 d_st), (cAI g a_from 8 d_from2_6), (cAI g a_begin 8 d_begin2_2), (cAI g a_motor 8 d_motor2_8), (cAI g a_change 8 d_change2_4), (cAI g a_startFrame 8 d_startFrame2_10), (cAI g a_changeFrame 8 d_changeFrame2_5), (cAI g a_lostAt 8 d_lostAt2_7), (cAI g a_blackAt 8 d_blackAt2_3), (cAI g a_slips 8 d_slips2_9), (cAI g a_there 8 d_there2_11), (cAI g a_backAt 4 d_backAt2_1)] rfl ?_
  refine k_iconst (v := 0) X dX11_apartOf_6 (by decide) ?_
  refine k_istore_n [(3, .int 0), (0, .ref h0), (1, .int p0), (2, .int p1)] X dX11_apartOf_7 (by decide) rfl ?_
  refine k_iconst (v := 0) X dX11_apartOf_8 (by decide) ?_
  refine k_istore [(4, .int 0), (3, .int 0), (0, .ref h0), (1, .int p0), (2, .int p1)] X dX11_apartOf_9 (by decide) rfl ?_
  refine (fun hL : ∀ (nn_19 : Nat) (u_15 : Int32) (u_16 : Int32), (2147483647 - u_16.toInt).toNat = nn_19 → (IV u_16 0 8) → (apF d_r (CHF d_r d_st (d_r (114 + 3 * p0 + 2).toNatClampNeg) p0 (d_r 12 - 1)) (fun j => (NS d_r d_st (d_r (114 + 3 * p0 + 2).toNatClampNeg) p0 j).2) p1 (d_r 12).toInt.toNat 0 0 = apF d_r (CHF d_r d_st (d_r (114 + 3 * p0 + 2).toNatClampNeg) p0 (d_r 12 - 1)) (fun j => (NS d_r d_st (d_r (114 + 3 * p0 + 2).toNatClampNeg) p0 j).2) p1 ((d_r 12).toInt - u_16.toInt).toNat u_16.toInt.toNat u_15) → Wk p l e _ s m args below meth c _ A g _ _ _ [(cO11_i1r1i10r1i2r5i2r12i3r4i2 h0 m_thrown a_tape m_taped m_size m_at m_end m_token m_whole m_nameSize m_fault m_place m_trouble a_letters m_failed m_hasHouse a_r a_fresh a_st a_undone a_kept m_undos m_images a_from a_begin a_motor a_change a_startFrame a_changeFrame a_lostAt a_blackAt a_slips a_leftArc a_died a_arcs m_bestSum m_nearest m_nearestTown a_there a_backAt a_sorted a_parts m_seed1 m_darkNow), (cAI g a_r 311 d_r), (cAI g a_st 44 d_st), (cAI g a_from 8 d_from2_6), (cAI g a_begin 8 d_begin2_2), (cAI g a_motor 8 d_motor2_8), (cAI g a_change 8 d_change2_4), (cAI g a_startFrame 8 d_startFrame2_10), (cAI g a_changeFrame 8 d_changeFrame2_5), (cAI g a_lostAt 8 d_lostAt2_7), (cAI g a_blackAt 8 d_blackAt2_3), (cAI g a_slips 8 d_slips2_9), (cAI g a_there 8 d_there2_11), (cAI g a_backAt 4 d_backAt2_1)] [(4, .int u_16), (3, .int u_15), (0, .ref h0), (1, .int p0), (2, .int p1)] 11 [] => hL _ 0 0 rfl (iv_w (show IV 0 0 0 from (by decide)) (by decide) (by decide)) (by rw [zI, Int.sub_zero]; try rfl)) ?_
  refine fun nn_19 => Nat.strongRecOn nn_19 (fun nn_19 ih_21 => ?_)
  intro u_15 u_16 hm_20 hv_17 hx_18
  refine k_iload X dX11_apartOf_11 0 rfl ?_
  refine k_aload_n X dX11_apartOf_13 2 rfl ?_
  refine k_get (ci := 11) X inlX11 rfl 15 (by decide) dX11_apartOf_14 mw170 0 rfl rfl ?_
  refine k_bipush (v := 12) X dX11_apartOf_17 (by decide) ?_
  refine k_iald X dX11_apartOf_19 1 rfl (by unfold vp_in; decide) ?_
  refine k_nm (fun z_22 ez_22 => ?_)
  have i_23 : z_22.toInt = (d_r 12).toInt := by rw [ez_22]; rfl
  have iv_24 : IV z_22 0 8 := rb_12 ez_22 hp_d_r
  refine k_ic_ge 49 X dX11_apartOf_20 (by decide) (fun h_25 => ?_) (fun h_25 => ?_)
  · skip
    have j_26 : z_22.toInt ≤ u_16.toInt := iv_le h_25
    refine k_iload_n X dX11_apartOf_49 1 rfl ?_
    exact k_iret X hr dX11_apartOf_50 (Nat.le_of_ble_eq_true rfl) (Nat.le_of_ble_eq_true rfl) [0, 1, 2, 3, 4, 5, 6, 7, 8, 9, 10, 11, 12, 13] (by decide) rfl rfl ⟨d_backAt2_1, d_begin2_2, d_blackAt2_3, d_change2_4, d_changeFrame2_5, d_from2_6, d_lostAt2_7, d_motor2_8, d_slips2_9, d_startFrame2_10, d_there2_11, (ap_end hx_18 (by omega)), rfl⟩
  · skip
    have j_27 : u_16.toInt < z_22.toInt := iv_nle h_25
    have iv_28 : IV u_16 0 7 := iv_ltL (iv_nle h_25) hv_17 iv_24 (by decide)
    have iv_29 : IV z_22 1 8 := iv_ltR (iv_nle h_25) hv_17 iv_24 (by decide)
    refine k_iload_n X dX11_apartOf_23 1 rfl ?_
    refine k_aload_n X dX11_apartOf_24 2 rfl ?_
    refine k_get (ci := 11) X inlX11 rfl 37 (by decide) dX11_apartOf_25 mw187 0 rfl rfl ?_
    refine k_iload X dX11_apartOf_28 0 rfl ?_
    refine k_iald X dX11_apartOf_30 12 rfl (iv_in iv_28 (by decide) (by decide)) ?_
    refine k_nm (fun z_30 ez_30 => ?_)
    refine k_aload_n X dX11_apartOf_31 2 rfl ?_
    refine k_get (ci := 11) X inlX11 rfl 23 (by decide) dX11_apartOf_32 mw176 0 rfl rfl ?_
    refine k_iload X dX11_apartOf_35 0 rfl ?_
    refine k_iald X dX11_apartOf_37 4 rfl (iv_in iv_28 (by decide) (by decide)) ?_
    refine k_nm (fun z_31 ez_31 => ?_)
    refine k_isub X dX11_apartOf_38 ?_
    refine k_nm (fun z_32 ez_32 => ?_)
    refine k_callSI (n := 2) (As := [.int u_15, .int z_32]) (st := []) X [] [(cO11_i1r1i10r1i2r5i2r12i3r4i2 h0 m_thrown a_tape m_taped m_size m_at m_end m_token m_whole m_nameSize m_fault m_place m_trouble a_letters m_failed m_hasHouse a_r a_fresh a_st a_undone a_kept m_undos m_images a_from a_begin a_motor a_change a_startFrame a_changeFrame a_lostAt a_blackAt a_slips a_leftArc a_died a_arcs m_bestSum m_nearest m_nearestTown a_there a_backAt a_sorted a_parts m_seed1 m_darkNow), (cAI g a_r 311 d_r), (cAI g a_st 44 d_st), (cAI g a_from 8 d_from2_6), (cAI g a_begin 8 d_begin2_2), (cAI g a_motor 8 d_motor2_8), (cAI g a_change 8 d_change2_4), (cAI g a_startFrame 8 d_startFrame2_10), (cAI g a_changeFrame 8 d_changeFrame2_5), (cAI g a_lostAt 8 d_lostAt2_7), (cAI g a_blackAt 8 d_blackAt2_3), (cAI g a_slips 8 d_slips2_9), (cAI g a_there 8 d_there2_11), (cAI g a_backAt 4 d_backAt2_1)] [] [0, 1, 2, 3, 4, 5, 6, 7, 8, 9, 10, 11, 12, 13] (m_mostE l g u_15 z_32) dX11_apartOf_39 mw842 mw843 mw5 mw844 yk_yX11_most_2 rfl (Nat.le_of_ble_eq_true rfl) (Nat.le_of_ble_eq_true rfl) (Nat.le_of_ble_eq_true rfl) (Nat.le_of_ble_eq_true rfl) (Nat.le_of_ble_eq_true rfl) rfl rfl (by decide +kernel) rfl (by decide +kernel) (by decide +kernel) ?_
    rintro r_34 w ⟨hq_35, rfl⟩
    refine k_ws [(cO11_i1r1i10r1i2r5i2r12i3r4i2 h0 m_thrown a_tape m_taped m_size m_at m_end m_token m_whole m_nameSize m_fault m_place m_trouble a_letters m_failed m_hasHouse a_r a_fresh a_st a_undone a_kept m_undos m_images a_from a_begin a_motor a_change a_startFrame a_changeFrame a_lostAt a_blackAt a_slips a_leftArc a_died a_arcs m_bestSum m_nearest m_nearestTown a_there a_backAt a_sorted a_parts m_seed1 m_darkNow), (cAI g a_r 311 d_r), (cAI g a_st 44 d_st), (cAI g a_from 8 d_from2_6), (cAI g a_begin 8 d_begin2_2), (cAI g a_motor 8 d_motor2_8), (cAI g a_change 8 d_change2_4), (cAI g a_startFrame 8 d_startFrame2_10), (cAI g a_changeFrame 8 d_changeFrame2_5), (cAI g a_lostAt 8 d_lostAt2_7), (cAI g a_blackAt 8 d_blackAt2_3), (cAI g a_slips 8 d_slips2_9), (cAI g a_there 8 d_there2_11), (cAI g a_backAt 4 d_backAt2_1)] rfl ?_
    refine k_istore_n [(3, .int r_34), (4, .int u_16), (0, .ref h0), (1, .int p0), (2, .int p1)] X dX11_apartOf_42 (by decide) rfl ?_
    obtain ⟨z_36, ez_36⟩ : ∃ y : Int32, u_16 + Int32.ofInt 1 = y := ⟨_, rfl⟩
    refine k_iinc z_36 [(4, .int z_36), (3, .int r_34), (0, .ref h0), (1, .int p0), (2, .int p1)] 1 X dX11_apartOf_43 rfl ez_36 (by decide) rfl ?_
    have i_37 : z_36.toInt = u_16.toInt + 1 := in_inc ez_36 (by decide) iv_28 (by decide) (by decide)
    have iv_38 : IV z_36 1 8 := iz1 i_37 iv_28 (by decide) (by decide)
    refine k_goto 11 X dX11_apartOf_46 (by decide) ?_
    exact ih_21 _ (by omega) r_34 z_36 rfl (iv_w iv_38 (by decide) (by decide)) (ap_step hx_18 (by omega) (by omega) (by omega) hq_14 hq_13 (by assumption) (by assumption) (by assumption) (by assumption))

theorem dX11_boys_0 : decode cX11_boys 0 = .ok (.aload_n 0, 1) := dk_42 rfl
theorem dX11_boys_1 : decode cX11_boys 1 = .ok (.invokevirtual 200, 3) := dk_182 rfl rfl rfl rfl
theorem dX11_boys_4 : decode cX11_boys 4 = .ok (.aload_n 0, 1) := dk_42 rfl
theorem dX11_boys_5 : decode cX11_boys 5 = .ok (.iload_n 1, 1) := dk_27 rfl
theorem dX11_boys_6 : decode cX11_boys 6 = .ok (.invokevirtual 446, 3) := dk_182 rfl rfl rfl rfl
theorem dX11_boys_9 : decode cX11_boys 9 = .ok (.istore_n 2, 1) := dk_61 rfl
theorem dX11_boys_10 : decode cX11_boys 10 = .ok (.iload_n 2, 1) := dk_28 rfl
theorem dX11_boys_11 : decode cX11_boys 11 = .ok (.ifCond .eq 9, 3) := dk_153 rfl rfl rfl (by decide)
theorem dX11_boys_14 : decode cX11_boys 14 = .ok (.aload_n 0, 1) := dk_42 rfl
theorem dX11_boys_15 : decode cX11_boys 15 = .ok (.iload_n 2, 1) := dk_28 rfl
theorem dX11_boys_16 : decode cX11_boys 16 = .ok (.invokevirtual 203, 3) := dk_182 rfl rfl rfl rfl
theorem dX11_boys_19 : decode cX11_boys 19 = .ok (.ireturn, 1) := dk_172 rfl
theorem dX11_boys_20 : decode cX11_boys 20 = .ok (.aload_n 0, 1) := dk_42 rfl
theorem dX11_boys_21 : decode cX11_boys 21 = .ok (.iload_n 1, 1) := dk_27 rfl
theorem dX11_boys_22 : decode cX11_boys 22 = .ok (.iconst 4, 1) := dk_7 rfl
theorem dX11_boys_23 : decode cX11_boys 23 = .ok (.invokevirtual 449, 3) := dk_182 rfl rfl rfl rfl
theorem dX11_boys_26 : decode cX11_boys 26 = .ok (.istore_n 3, 1) := dk_62 rfl
theorem dX11_boys_27 : decode cX11_boys 27 = .ok (.iconst 1, 1) := dk_4 rfl
theorem dX11_boys_28 : decode cX11_boys 28 = .ok (.istore 4, 2) := dk_54 rfl rfl rfl
theorem dX11_boys_30 : decode cX11_boys 30 = .ok (.aload_n 0, 1) := dk_42 rfl
theorem dX11_boys_31 : decode cX11_boys 31 = .ok (.iload_n 1, 1) := dk_27 rfl
theorem dX11_boys_32 : decode cX11_boys 32 = .ok (.iload 4, 2) := dk_21 rfl rfl rfl
theorem dX11_boys_34 : decode cX11_boys 34 = .ok (.invokevirtual 449, 3) := dk_182 rfl rfl rfl rfl
theorem dX11_boys_37 : decode cX11_boys 37 = .ok (.iload_n 3, 1) := dk_29 rfl
theorem dX11_boys_38 : decode cX11_boys 38 = .ok (.if_icmp .le 9, 3) := dk_164 rfl rfl rfl (by decide)
theorem dX11_boys_41 : decode cX11_boys 41 = .ok (.iinc 4 1, 3) := dk_132 rfl rfl rfl rfl (by decide)
theorem dX11_boys_44 : decode cX11_boys 44 = .ok (.goto (-14), 3) := dk_167 rfl rfl rfl (by decide)
theorem dX11_boys_47 : decode cX11_boys 47 = .ok (.iload 4, 2) := dk_21 rfl rfl rfl
theorem dX11_boys_49 : decode cX11_boys 49 = .ok (.ireturn, 1) := dk_172 rfl
set_option maxHeartbeats 4000000 in
set_option maxRecDepth 100000 in
theorem m_boys (l : Launch) (g : Gx) (h0 : Nat) (p0 : Int32) (m_thrown : Int32) (a_tape : Nat) (m_taped : Int32) (m_size : Int32) (m_at : Int32) (m_end : Int32) (m_token : Int32) (m_whole : Int32) (m_nameSize : Int32) (m_fault : Int32) (m_place : Int32) (m_trouble : Int32) (a_letters : Nat) (m_failed : Int32) (m_hasHouse : Int32) (a_r : Nat) (a_fresh : Nat) (a_st : Nat) (a_undone : Nat) (a_kept : Nat) (m_undos : Int32) (m_images : Int32) (a_from : Nat) (a_begin : Nat) (a_motor : Nat) (a_change : Nat) (a_startFrame : Nat) (a_changeFrame : Nat) (a_lostAt : Nat) (a_blackAt : Nat) (a_slips : Nat) (a_leftArc : Nat) (a_died : Nat) (a_arcs : Nat) (m_bestSum : Int32) (m_nearest : Int32) (m_nearestTown : Int32) (a_there : Nat) (a_backAt : Nat) (a_sorted : Nat) (a_parts : Nat) (m_seed1 : Int32) (m_darkNow : Int32) (d_r : Nat → Int32) (d_st : Nat → Int32) (d_from : Nat → Int32) (d_begin : Nat → Int32) (d_motor : Nat → Int32) (d_change : Nat → Int32) (d_startFrame : Nat → Int32) (d_changeFrame : Nat → Int32) (d_lostAt : Nat → Int32) (d_blackAt : Nat → Int32) (d_slips : Nat → Int32) (d_there : Nat → Int32) (d_backAt : Nat → Int32) (hv_m_hasHouse : IV m_hasHouse 0 1) (hp_d_r : RInv d_r) : cI l g yX11_boys cX11_boys 5 (some .int) 7 159 0 0 [.ref h0, .int p0] [(cO11_i1r1i10r1i2r5i2r12i3r4i2 h0 m_thrown a_tape m_taped m_size m_at m_end m_token m_whole m_nameSize m_fault m_place m_trouble a_letters m_failed m_hasHouse a_r a_fresh a_st a_undone a_kept m_undos m_images a_from a_begin a_motor a_change a_startFrame a_changeFrame a_lostAt a_blackAt a_slips a_leftArc a_died a_arcs m_bestSum m_nearest m_nearestTown a_there a_backAt a_sorted a_parts m_seed1 m_darkNow), (cAI g a_r 311 d_r), (cAI g a_st 44 d_st), (cAI g a_from 8 d_from), (cAI g a_begin 8 d_begin), (cAI g a_motor 8 d_motor), (cAI g a_change 8 d_change), (cAI g a_startFrame 8 d_startFrame), (cAI g a_changeFrame 8 d_changeFrame), (cAI g a_lostAt 8 d_lostAt), (cAI g a_blackAt 8 d_blackAt), (cAI g a_slips 8 d_slips), (cAI g a_there 8 d_there), (cAI g a_backAt 4 d_backAt)] (fun r w => ∃ (d_backAt2 : Nat → Int32) (d_begin2 : Nat → Int32) (d_blackAt2 : Nat → Int32) (d_change2 : Nat → Int32) (d_changeFrame2 : Nat → Int32) (d_from2 : Nat → Int32) (d_lostAt2 : Nat → Int32) (d_motor2 : Nat → Int32) (d_slips2 : Nat → Int32) (d_startFrame2 : Nat → Int32) (d_there2 : Nat → Int32) (m_thrown2 : Int32) (m_trouble2 : Int32), w = [(cO11_i1r1i10r1i2r5i2r12i3r4i2 h0 m_thrown2 a_tape m_taped m_size m_at m_end m_token m_whole m_nameSize m_fault m_place m_trouble2 a_letters m_failed m_hasHouse a_r a_fresh a_st a_undone a_kept m_undos m_images a_from a_begin a_motor a_change a_startFrame a_changeFrame a_lostAt a_blackAt a_slips a_leftArc a_died a_arcs m_bestSum m_nearest m_nearestTown a_there a_backAt a_sorted a_parts m_seed1 m_darkNow), (cAI g a_r 311 d_r), (cAI g a_st 44 d_st), (cAI g a_from 8 d_from2), (cAI g a_begin 8 d_begin2), (cAI g a_motor 8 d_motor2), (cAI g a_change 8 d_change2), (cAI g a_startFrame 8 d_startFrame2), (cAI g a_changeFrame 8 d_changeFrame2), (cAI g a_lostAt 8 d_lostAt2), (cAI g a_blackAt 8 d_blackAt2), (cAI g a_slips 8 d_slips2), (cAI g a_there 8 d_there2), (cAI g a_backAt 4 d_backAt2)]) := by
  refine cI.of (by decide) (Nat.le_of_ble_eq_true rfl) ?_
  intro p e s m args below meth c A X hr hi
  refine k_lveq [(0, .ref h0), (1, .int p0)] rfl ?_
  refine k_aload_n X dX11_boys_0 0 rfl ?_
  refine k_callVV (n := 0) (As := []) (st := []) X [(cO11_i1r1i10r1i2r5i2r12i3r4i2 h0 m_thrown a_tape m_taped m_size m_at m_end m_token m_whole m_nameSize m_fault m_place m_trouble a_letters m_failed m_hasHouse a_r a_fresh a_st a_undone a_kept m_undos m_images a_from a_begin a_motor a_change a_startFrame a_changeFrame a_lostAt a_blackAt a_slips a_leftArc a_died a_arcs m_bestSum m_nearest m_nearestTown a_there a_backAt a_sorted a_parts m_seed1 m_darkNow)] [(cAI g a_r 311 d_r), (cAI g a_st 44 d_st), (cAI g a_from 8 d_from), (cAI g a_begin 8 d_begin), (cAI g a_motor 8 d_motor), (cAI g a_change 8 d_change), (cAI g a_startFrame 8 d_startFrame), (cAI g a_changeFrame 8 d_changeFrame), (cAI g a_lostAt 8 d_lostAt), (cAI g a_blackAt 8 d_blackAt), (cAI g a_slips 8 d_slips), (cAI g a_there 8 d_there), (cAI g a_backAt 4 d_backAt)] [0] [1, 2, 3, 4, 5, 6, 7, 8, 9, 10, 11, 12, 13] (m_good l g h0 m_thrown a_tape m_taped m_size m_at m_end m_token m_whole m_nameSize m_fault m_place m_trouble a_letters m_failed m_hasHouse a_r a_fresh a_st a_undone a_kept m_undos m_images a_from a_begin a_motor a_change a_startFrame a_changeFrame a_lostAt a_blackAt a_slips a_leftArc a_died a_arcs m_bestSum m_nearest m_nearestTown a_there a_backAt a_sorted a_parts m_seed1 m_darkNow) dX11_boys_1 mw477 mw478 mw479 mw5 mw480 rfl 11 rfl rfl 0 _ rfl yk_yX11_good_0 rfl (Nat.le_of_ble_eq_true rfl) (Nat.le_of_ble_eq_true rfl) (Nat.le_of_ble_eq_true rfl) (Nat.le_of_ble_eq_true rfl) (Nat.le_of_ble_eq_true rfl) rfl rfl (by decide +kernel) rfl (by decide +kernel) (by decide +kernel) ?_
  rintro w ⟨m_thrown2_1, m_trouble2_2, rfl⟩
  refine k_ws [(cAI g a_r 311 d_r), (cAI g a_st 44 d_st), (cAI g a_from 8 d_from), (cAI g a_begin 8 d_begin), (cAI g a_motor 8 d_motor), (cAI g a_change 8 d_change), (cAI g a_startFrame 8 d_startFrame), (cAI g a_changeFrame 8 d_changeFrame), (cAI g a_lostAt 8 d_lostAt), (cAI g a_blackAt 8 d_blackAt), (cAI g a_slips 8 d_slips), (cAI g a_there 8 d_there), (cAI g a_backAt 4 d_backAt), (cO11_i1r1i10r1i2r5i2r12i3r4i2 h0 m_thrown2_1 a_tape m_taped m_size m_at m_end m_token m_whole m_nameSize m_fault m_place m_trouble2_2 a_letters m_failed m_hasHouse a_r a_fresh a_st a_undone a_kept m_undos m_images a_from a_begin a_motor a_change a_startFrame a_changeFrame a_lostAt a_blackAt a_slips a_leftArc a_died a_arcs m_bestSum m_nearest m_nearestTown a_there a_backAt a_sorted a_parts m_seed1 m_darkNow)] rfl ?_
  refine k_aload_n X dX11_boys_4 0 rfl ?_
  refine k_iload_n X dX11_boys_5 1 rfl ?_
  refine k_callVI (n := 1) (As := [.int p0]) (st := []) X [(cO11_i1r1i10r1i2r5i2r12i3r4i2 h0 m_thrown2_1 a_tape m_taped m_size m_at m_end m_token m_whole m_nameSize m_fault m_place m_trouble2_2 a_letters m_failed m_hasHouse a_r a_fresh a_st a_undone a_kept m_undos m_images a_from a_begin a_motor a_change a_startFrame a_changeFrame a_lostAt a_blackAt a_slips a_leftArc a_died a_arcs m_bestSum m_nearest m_nearestTown a_there a_backAt a_sorted a_parts m_seed1 m_darkNow), (cAI g a_r 311 d_r)] [(cAI g a_st 44 d_st), (cAI g a_from 8 d_from), (cAI g a_begin 8 d_begin), (cAI g a_motor 8 d_motor), (cAI g a_change 8 d_change), (cAI g a_startFrame 8 d_startFrame), (cAI g a_changeFrame 8 d_changeFrame), (cAI g a_lostAt 8 d_lostAt), (cAI g a_blackAt 8 d_blackAt), (cAI g a_slips 8 d_slips), (cAI g a_there 8 d_there), (cAI g a_backAt 4 d_backAt)] [13, 0] [1, 2, 3, 4, 5, 6, 7, 8, 9, 10, 11, 12] (m_boyWhy l g h0 p0 m_thrown2_1 a_tape m_taped m_size m_at m_end m_token m_whole m_nameSize m_fault m_place m_trouble2_2 a_letters m_failed m_hasHouse a_r a_fresh a_st a_undone a_kept m_undos m_images a_from a_begin a_motor a_change a_startFrame a_changeFrame a_lostAt a_blackAt a_slips a_leftArc a_died a_arcs m_bestSum m_nearest m_nearestTown a_there a_backAt a_sorted a_parts m_seed1 m_darkNow d_r (iv_w hv_m_hasHouse (by decide) (by decide)) hp_d_r) dX11_boys_6 mw1315 mw1316 mw1317 mw5 mw1318 rfl 11 rfl rfl 0 _ rfl yk_yX11_boyWhy_1 rfl (Nat.le_of_ble_eq_true rfl) (Nat.le_of_ble_eq_true rfl) (Nat.le_of_ble_eq_true rfl) (Nat.le_of_ble_eq_true rfl) (Nat.le_of_ble_eq_true rfl) rfl rfl (by decide +kernel) rfl (by decide +kernel) (by decide +kernel) ?_
  rintro r_4 w ⟨iv_5, hk_6, rfl⟩
  refine k_ws [(cAI g a_st 44 d_st), (cAI g a_from 8 d_from), (cAI g a_begin 8 d_begin), (cAI g a_motor 8 d_motor), (cAI g a_change 8 d_change), (cAI g a_startFrame 8 d_startFrame), (cAI g a_changeFrame 8 d_changeFrame), (cAI g a_lostAt 8 d_lostAt), (cAI g a_blackAt 8 d_blackAt), (cAI g a_slips 8 d_slips), (cAI g a_there 8 d_there), (cAI g a_backAt 4 d_backAt), (cO11_i1r1i10r1i2r5i2r12i3r4i2 h0 m_thrown2_1 a_tape m_taped m_size m_at m_end m_token m_whole m_nameSize m_fault m_place m_trouble2_2 a_letters m_failed m_hasHouse a_r a_fresh a_st a_undone a_kept m_undos m_images a_from a_begin a_motor a_change a_startFrame a_changeFrame a_lostAt a_blackAt a_slips a_leftArc a_died a_arcs m_bestSum m_nearest m_nearestTown a_there a_backAt a_sorted a_parts m_seed1 m_darkNow), (cAI g a_r 311 d_r)] rfl ?_
  refine k_istore_n [(2, .int r_4), (0, .ref h0), (1, .int p0)] X dX11_boys_9 (by decide) rfl ?_
  refine k_iload_n X dX11_boys_10 0 rfl ?_
  refine k_if_eq 20 X dX11_boys_11 (by decide) (fun h_7 => ?_) (fun h_7 => ?_)
  · skip
    have iv_8 : IV r_4 0 0 := iv_meet iv_5 (iv_e h_7 (show IV 0 0 0 from (by decide))) (by decide) (by decide)
    have hc_9 := hk_6.resolve_left (fun q => iv_eqN q iv_8 (show IV 1 1 1 from (by decide)) (by decide))
    have iv_10 : IV p0 0 3 := iv_meet (iv_any p0) hc_9 (by decide) (by decide)
    refine k_aload_n X dX11_boys_20 1 rfl ?_
    refine k_iload_n X dX11_boys_21 2 rfl ?_
    refine k_iconst (v := 4) X dX11_boys_22 (by decide) ?_
    refine k_callVI (n := 2) (As := [.int p0, .int 4]) (st := []) X [(cO11_i1r1i10r1i2r5i2r12i3r4i2 h0 m_thrown2_1 a_tape m_taped m_size m_at m_end m_token m_whole m_nameSize m_fault m_place m_trouble2_2 a_letters m_failed m_hasHouse a_r a_fresh a_st a_undone a_kept m_undos m_images a_from a_begin a_motor a_change a_startFrame a_changeFrame a_lostAt a_blackAt a_slips a_leftArc a_died a_arcs m_bestSum m_nearest m_nearestTown a_there a_backAt a_sorted a_parts m_seed1 m_darkNow), (cAI g a_r 311 d_r), (cAI g a_st 44 d_st), (cAI g a_from 8 d_from), (cAI g a_begin 8 d_begin), (cAI g a_motor 8 d_motor), (cAI g a_change 8 d_change), (cAI g a_startFrame 8 d_startFrame), (cAI g a_changeFrame 8 d_changeFrame), (cAI g a_lostAt 8 d_lostAt), (cAI g a_blackAt 8 d_blackAt), (cAI g a_slips 8 d_slips), (cAI g a_there 8 d_there), (cAI g a_backAt 4 d_backAt)] [] [12, 13, 0, 1, 2, 3, 4, 5, 6, 7, 8, 9, 10, 11] [] (m_apartOfE l g h0 p0 4 m_thrown2_1 a_tape m_taped m_size m_at m_end m_token m_whole m_nameSize m_fault m_place m_trouble2_2 a_letters m_failed m_hasHouse a_r a_fresh a_st a_undone a_kept m_undos m_images a_from a_begin a_motor a_change a_startFrame a_changeFrame a_lostAt a_blackAt a_slips a_leftArc a_died a_arcs m_bestSum m_nearest m_nearestTown a_there a_backAt a_sorted a_parts m_seed1 m_darkNow d_r d_st d_from d_begin d_motor d_change d_startFrame d_changeFrame d_lostAt d_blackAt d_slips d_there d_backAt (iv_w iv_10 (by decide) (by decide)) (iv_w (show IV 4 4 4 from (by decide)) (by decide) (by decide)) hp_d_r) dX11_boys_23 mw1319 mw1320 mw1321 mw5 mw1322 rfl 11 rfl rfl 0 _ rfl yk_yX11_apartOf_2 rfl (Nat.le_of_ble_eq_true rfl) (Nat.le_of_ble_eq_true rfl) (Nat.le_of_ble_eq_true rfl) (Nat.le_of_ble_eq_true rfl) (Nat.le_of_ble_eq_true rfl) rfl rfl (by decide +kernel) rfl (by decide +kernel) (by decide +kernel) ?_
    intro r_22 w zq
    refine exE11 zq ?_
    clear zq
    intro d_backAt2_11 d_begin2_12 d_blackAt2_13 d_change2_14 d_changeFrame2_15 d_from2_16 d_lostAt2_17 d_motor2_18 d_slips2_19 d_startFrame2_20 d_there2_21 hq_23 zq
    subst zq
    refine k_ws [(cO11_i1r1i10r1i2r5i2r12i3r4i2 h0 m_thrown2_1 a_tape m_taped m_size m_at m_end m_token m_whole m_nameSize m_fault m_place m_trouble2_2 a_letters m_failed m_hasHouse a_r a_fresh a_st a_undone a_kept m_undos m_images a_from a_begin a_motor a_change a_startFrame a_changeFrame a_lostAt a_blackAt a_slips a_leftArc a_died a_arcs m_bestSum m_nearest m_nearestTown a_there a_backAt a_sorted a_parts m_seed1 m_darkNow), (cAI g a_r 311 d_r), (cAI g a_st 44 d_st), (cAI g a_from 8 d_from2_16), (cAI g a_begin 8 d_begin2_12), (cAI g a_motor 8 d_motor2_18), (cAI g a_change 8 d_change2_14), (cAI g a_startFrame 8 d_startFrame2_20), (cAI g a_changeFrame 8 d_changeFrame2_15), (cAI g a_lostAt 8 d_lostAt2_17), (cAI g a_blackAt 8 d_blackAt2_13), (cAI g a_slips 8 d_slips2_19), (cAI g a_there 8 d_there2_21), (cAI g a_backAt 4 d_backAt2_11)] rfl ?_
    refine k_istore_n [(3, .int r_22), (2, .int r_4), (0, .ref h0), (1, .int p0)] X dX11_boys_26 (by decide) rfl ?_
    refine k_iconst (v := 1) X dX11_boys_27 (by decide) ?_
    refine k_istore [(4, .int 1), (3, .int r_22), (2, .int r_4), (0, .ref h0), (1, .int p0)] X dX11_boys_28 (by decide) rfl ?_
    refine (fun hL : ∀ (nn_37 : Nat) (uf_24 : Nat → Int32) (uf_25 : Nat → Int32) (uf_26 : Nat → Int32) (uf_27 : Nat → Int32) (uf_28 : Nat → Int32) (uf_29 : Nat → Int32) (uf_30 : Nat → Int32) (uf_31 : Nat → Int32) (uf_32 : Nat → Int32) (uf_33 : Nat → Int32) (uf_34 : Nat → Int32) (u_35 : Int32), (5 - u_35.toInt).toNat = nn_37 → (IV u_35 1 4) → Wk p l e _ s m args below meth c _ A g _ _ _ [(cO11_i1r1i10r1i2r5i2r12i3r4i2 h0 m_thrown2_1 a_tape m_taped m_size m_at m_end m_token m_whole m_nameSize m_fault m_place m_trouble2_2 a_letters m_failed m_hasHouse a_r a_fresh a_st a_undone a_kept m_undos m_images a_from a_begin a_motor a_change a_startFrame a_changeFrame a_lostAt a_blackAt a_slips a_leftArc a_died a_arcs m_bestSum m_nearest m_nearestTown a_there a_backAt a_sorted a_parts m_seed1 m_darkNow), (cAI g a_r 311 d_r), (cAI g a_st 44 d_st), (cAI g a_from 8 uf_29), (cAI g a_begin 8 uf_25), (cAI g a_motor 8 uf_31), (cAI g a_change 8 uf_27), (cAI g a_startFrame 8 uf_33), (cAI g a_changeFrame 8 uf_28), (cAI g a_lostAt 8 uf_30), (cAI g a_blackAt 8 uf_26), (cAI g a_slips 8 uf_32), (cAI g a_there 8 uf_34), (cAI g a_backAt 4 uf_24)] [(4, .int u_35), (3, .int r_22), (2, .int r_4), (0, .ref h0), (1, .int p0)] 30 [] => hL _ d_backAt2_11 d_begin2_12 d_blackAt2_13 d_change2_14 d_changeFrame2_15 d_from2_16 d_lostAt2_17 d_motor2_18 d_slips2_19 d_startFrame2_20 d_there2_21 1 rfl (iv_w (show IV 1 1 1 from (by decide)) (by decide) (by decide))) ?_
    refine fun nn_37 => Nat.strongRecOn nn_37 (fun nn_37 ih_39 => ?_)
    intro uf_24 uf_25 uf_26 uf_27 uf_28 uf_29 uf_30 uf_31 uf_32 uf_33 uf_34 u_35 hm_38 hv_36
    refine k_aload_n X dX11_boys_30 3 rfl ?_
    refine k_iload_n X dX11_boys_31 4 rfl ?_
    refine k_iload X dX11_boys_32 0 rfl ?_
    refine k_callVI (n := 2) (As := [.int p0, .int u_35]) (st := []) X [(cO11_i1r1i10r1i2r5i2r12i3r4i2 h0 m_thrown2_1 a_tape m_taped m_size m_at m_end m_token m_whole m_nameSize m_fault m_place m_trouble2_2 a_letters m_failed m_hasHouse a_r a_fresh a_st a_undone a_kept m_undos m_images a_from a_begin a_motor a_change a_startFrame a_changeFrame a_lostAt a_blackAt a_slips a_leftArc a_died a_arcs m_bestSum m_nearest m_nearestTown a_there a_backAt a_sorted a_parts m_seed1 m_darkNow), (cAI g a_r 311 d_r), (cAI g a_st 44 d_st), (cAI g a_from 8 uf_29), (cAI g a_begin 8 uf_25), (cAI g a_motor 8 uf_31), (cAI g a_change 8 uf_27), (cAI g a_startFrame 8 uf_33), (cAI g a_changeFrame 8 uf_28), (cAI g a_lostAt 8 uf_30), (cAI g a_blackAt 8 uf_26), (cAI g a_slips 8 uf_32), (cAI g a_there 8 uf_34), (cAI g a_backAt 4 uf_24)] [] [0, 1, 2, 3, 4, 5, 6, 7, 8, 9, 10, 11, 12, 13] [] (m_apartOfE l g h0 p0 u_35 m_thrown2_1 a_tape m_taped m_size m_at m_end m_token m_whole m_nameSize m_fault m_place m_trouble2_2 a_letters m_failed m_hasHouse a_r a_fresh a_st a_undone a_kept m_undos m_images a_from a_begin a_motor a_change a_startFrame a_changeFrame a_lostAt a_blackAt a_slips a_leftArc a_died a_arcs m_bestSum m_nearest m_nearestTown a_there a_backAt a_sorted a_parts m_seed1 m_darkNow d_r d_st uf_29 uf_25 uf_31 uf_27 uf_33 uf_28 uf_30 uf_26 uf_32 uf_34 uf_24 (iv_w iv_10 (by decide) (by decide)) (iv_w hv_36 (by decide) (by decide)) hp_d_r) dX11_boys_34 mw1319 mw1320 mw1321 mw5 mw1322 rfl 11 rfl rfl 0 _ rfl yk_yX11_apartOf_2 rfl (Nat.le_of_ble_eq_true rfl) (Nat.le_of_ble_eq_true rfl) (Nat.le_of_ble_eq_true rfl) (Nat.le_of_ble_eq_true rfl) (Nat.le_of_ble_eq_true rfl) rfl rfl (by decide +kernel) rfl (by decide +kernel) (by decide +kernel) ?_
    intro r_51 w zq
    refine exE11 zq ?_
    clear zq
    intro d_backAt2_40 d_begin2_41 d_blackAt2_42 d_change2_43 d_changeFrame2_44 d_from2_45 d_lostAt2_46 d_motor2_47 d_slips2_48 d_startFrame2_49 d_there2_50 hq_52 zq
    subst zq
    refine k_ws [(cO11_i1r1i10r1i2r5i2r12i3r4i2 h0 m_thrown2_1 a_tape m_taped m_size m_at m_end m_token m_whole m_nameSize m_fault m_place m_trouble2_2 a_letters m_failed m_hasHouse a_r a_fresh a_st a_undone a_kept m_undos m_images a_from a_begin a_motor a_change a_startFrame a_changeFrame a_lostAt a_blackAt a_slips a_leftArc a_died a_arcs m_bestSum m_nearest m_nearestTown a_there a_backAt a_sorted a_parts m_seed1 m_darkNow), (cAI g a_r 311 d_r), (cAI g a_st 44 d_st), (cAI g a_from 8 d_from2_45), (cAI g a_begin 8 d_begin2_41), (cAI g a_motor 8 d_motor2_47), (cAI g a_change 8 d_change2_43), (cAI g a_startFrame 8 d_startFrame2_49), (cAI g a_changeFrame 8 d_changeFrame2_44), (cAI g a_lostAt 8 d_lostAt2_46), (cAI g a_blackAt 8 d_blackAt2_42), (cAI g a_slips 8 d_slips2_48), (cAI g a_there 8 d_there2_50), (cAI g a_backAt 4 d_backAt2_40)] rfl ?_
    refine k_iload_n X dX11_boys_37 1 rfl ?_
    refine k_ic_le 47 X dX11_boys_38 (by decide) (fun h_53 => ?_) (fun h_53 => ?_)
    · skip
      have j_54 : r_51.toInt ≤ r_22.toInt := iv_le h_53
      refine k_iload X dX11_boys_47 0 rfl ?_
      exact k_iret X hr dX11_boys_49 (Nat.le_of_ble_eq_true rfl) (Nat.le_of_ble_eq_true rfl) [0, 1, 2, 3, 4, 5, 6, 7, 8, 9, 10, 11, 12, 13] (by decide) rfl rfl ⟨d_backAt2_40, d_begin2_41, d_blackAt2_42, d_change2_43, d_changeFrame2_44, d_from2_45, d_lostAt2_46, d_motor2_47, d_slips2_48, d_startFrame2_49, d_there2_50, m_thrown2_1, m_trouble2_2, rfl⟩
    · skip
      have j_55 : r_22.toInt < r_51.toInt := iv_nle h_53
      have iv_56 : IV r_22 (-2147483648) 2147483646 := iv_ltL (iv_nle h_53) (iv_any r_22) (iv_any r_51) (by decide)
      have iv_57 : IV r_51 (-2147483647) 2147483647 := iv_ltR (iv_nle h_53) (iv_any r_22) (iv_any r_51) (by decide)
      have iv_58 : IV u_35 1 3 := boys3 (fun b => apF d_r (CHF d_r d_st (d_r (114 + 3 * p0 + 2).toNatClampNeg) p0 (d_r 12 - 1)) (fun j => (NS d_r d_st (d_r (114 + 3 * p0 + 2).toNatClampNeg) p0 j).2) b (d_r 12).toInt.toNat 0 0) (iv_w hv_36 (by decide) (by decide)) hq_23 hq_52 (by omega)
      obtain ⟨z_59, ez_59⟩ : ∃ y : Int32, u_35 + Int32.ofInt 1 = y := ⟨_, rfl⟩
      refine k_iinc z_59 [(4, .int z_59), (3, .int r_22), (2, .int r_4), (0, .ref h0), (1, .int p0)] 0 X dX11_boys_41 rfl ez_59 (by decide) rfl ?_
      have i_60 : z_59.toInt = u_35.toInt + 1 := in_inc ez_59 (by decide) iv_58 (by decide) (by decide)
      have iv_61 : IV z_59 2 4 := iz1 i_60 iv_58 (by decide) (by decide)
      refine k_goto 30 X dX11_boys_44 (by decide) ?_
      exact ih_39 _ (by omega) d_backAt2_40 d_begin2_41 d_blackAt2_42 d_change2_43 d_changeFrame2_44 d_from2_45 d_lostAt2_46 d_motor2_47 d_slips2_48 d_startFrame2_49 d_there2_50 z_59 rfl (iv_w iv_61 (by decide) (by decide))
  · skip
    have iv_62 : IV r_4 1 6 := iv_neL h_7 iv_5 (show IV 0 0 0 from (by decide)) (by decide)
    refine k_aload_n X dX11_boys_14 1 rfl ?_
    refine k_iload_n X dX11_boys_15 0 rfl ?_
    refine k_callVI (n := 1) (As := [.int r_4]) (st := []) X [(cO11_i1r1i10r1i2r5i2r12i3r4i2 h0 m_thrown2_1 a_tape m_taped m_size m_at m_end m_token m_whole m_nameSize m_fault m_place m_trouble2_2 a_letters m_failed m_hasHouse a_r a_fresh a_st a_undone a_kept m_undos m_images a_from a_begin a_motor a_change a_startFrame a_changeFrame a_lostAt a_blackAt a_slips a_leftArc a_died a_arcs m_bestSum m_nearest m_nearestTown a_there a_backAt a_sorted a_parts m_seed1 m_darkNow)] [(cAI g a_st 44 d_st), (cAI g a_from 8 d_from), (cAI g a_begin 8 d_begin), (cAI g a_motor 8 d_motor), (cAI g a_change 8 d_change), (cAI g a_startFrame 8 d_startFrame), (cAI g a_changeFrame 8 d_changeFrame), (cAI g a_lostAt 8 d_lostAt), (cAI g a_blackAt 8 d_blackAt), (cAI g a_slips 8 d_slips), (cAI g a_there 8 d_there), (cAI g a_backAt 4 d_backAt), (cAI g a_r 311 d_r)] [12] [0, 1, 2, 3, 4, 5, 6, 7, 8, 9, 10, 11, 13] (m_no l g h0 r_4 m_thrown2_1 a_tape m_taped m_size m_at m_end m_token m_whole m_nameSize m_fault m_place m_trouble2_2 a_letters m_failed m_hasHouse a_r a_fresh a_st a_undone a_kept m_undos m_images a_from a_begin a_motor a_change a_startFrame a_changeFrame a_lostAt a_blackAt a_slips a_leftArc a_died a_arcs m_bestSum m_nearest m_nearestTown a_there a_backAt a_sorted a_parts m_seed1 m_darkNow) dX11_boys_16 mw485 mw486 mw487 mw5 mw488 rfl 11 rfl rfl 0 _ rfl yk_yX11_no_1 rfl (Nat.le_of_ble_eq_true rfl) (Nat.le_of_ble_eq_true rfl) (Nat.le_of_ble_eq_true rfl) (Nat.le_of_ble_eq_true rfl) (Nat.le_of_ble_eq_true rfl) rfl rfl (by decide +kernel) rfl (by decide +kernel) (by decide +kernel) ?_
    rintro r_64 w ⟨m_trouble2_63, iv_65, rfl⟩
    refine k_ws [(cAI g a_st 44 d_st), (cAI g a_from 8 d_from), (cAI g a_begin 8 d_begin), (cAI g a_motor 8 d_motor), (cAI g a_change 8 d_change), (cAI g a_startFrame 8 d_startFrame), (cAI g a_changeFrame 8 d_changeFrame), (cAI g a_lostAt 8 d_lostAt), (cAI g a_blackAt 8 d_blackAt), (cAI g a_slips 8 d_slips), (cAI g a_there 8 d_there), (cAI g a_backAt 4 d_backAt), (cAI g a_r 311 d_r), (cO11_i1r1i10r1i2r5i2r12i3r4i2 h0 m_thrown2_1 a_tape m_taped m_size m_at m_end m_token m_whole m_nameSize m_fault m_place m_trouble2_63 a_letters m_failed m_hasHouse a_r a_fresh a_st a_undone a_kept m_undos m_images a_from a_begin a_motor a_change a_startFrame a_changeFrame a_lostAt a_blackAt a_slips a_leftArc a_died a_arcs m_bestSum m_nearest m_nearestTown a_there a_backAt a_sorted a_parts m_seed1 m_darkNow)] rfl ?_
    exact k_iret X hr dX11_boys_19 (Nat.le_of_ble_eq_true rfl) (Nat.le_of_ble_eq_true rfl) [13, 12, 0, 1, 2, 3, 4, 5, 6, 7, 8, 9, 10, 11] (by decide) rfl rfl ⟨d_backAt, d_begin, d_blackAt, d_change, d_changeFrame, d_from, d_lostAt, d_motor, d_slips, d_startFrame, d_there, m_thrown2_1, m_trouble2_63, rfl⟩
