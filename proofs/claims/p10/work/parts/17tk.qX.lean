
set_option maxHeartbeats 4000000 in
set_option maxRecDepth 100000 in
theorem m_reelAtX (l : Launch) (g : Gx) (h0 : Nat) (p0 : Int32) (m_thrown : Int32) (a_tape : Nat) (m_taped : Int32) (m_size : Int32) (m_at : Int32) (m_end : Int32) (m_token : Int32) (m_whole : Int32) (m_nameSize : Int32) (m_fault : Int32) (m_place : Int32) (m_trouble : Int32) (a_letters : Nat) (m_failed : Int32) (m_hasHouse : Int32) (a_r : Nat) (a_fresh : Nat) (a_st : Nat) (a_undone : Nat) (a_kept : Nat) (m_undos : Int32) (m_images : Int32) (a_from : Nat) (a_begin : Nat) (a_motor : Nat) (a_change : Nat) (a_startFrame : Nat) (a_changeFrame : Nat) (a_lostAt : Nat) (a_blackAt : Nat) (a_slips : Nat) (a_leftArc : Nat) (a_died : Nat) (a_arcs : Nat) (m_bestSum : Int32) (m_nearest : Int32) (m_nearestTown : Int32) (a_there : Nat) (a_backAt : Nat) (a_sorted : Nat) (a_parts : Nat) (m_seed1 : Int32) (m_darkNow : Int32) (d_r : Nat → Int32) (hv_p0 : IV p0 0 7) (hp_d_r : RInv d_r) : cI l g yX11_reelAt cX11_reelAt 2 (some .int) 0 0 0 0 [.ref h0, .int p0] [(h0, .inr (11, (.int m_thrown :: .ref a_tape :: .int m_taped :: .int m_size :: .int m_at :: .int m_end :: .int m_token :: .int m_whole :: .int m_nameSize :: .int m_fault :: .int m_place :: .int m_trouble :: .ref a_letters :: .int m_failed :: .int m_hasHouse :: .ref a_r :: .ref a_fresh :: .ref a_st :: .ref a_undone :: .ref a_kept :: .int m_undos :: .int m_images :: .ref a_from :: .ref a_begin :: .ref a_motor :: .ref a_change :: .ref a_startFrame :: .ref a_changeFrame :: .ref a_lostAt :: .ref a_blackAt :: .ref a_slips :: .ref a_leftArc :: .ref a_died :: .ref a_arcs :: .int m_bestSum :: .int m_nearest :: .int m_nearestTown :: .ref a_there :: .ref a_backAt :: .ref a_sorted :: .ref a_parts :: .int m_seed1 :: .int m_darkNow :: []))), (a_r, .inl (g.2.2.1, 311, .inl d_r))] (fun r w => IV r 0 7 ∧ (R_m_reelAtX p0 d_r r) ∧ w = [(h0, .inr (11, (.int m_thrown :: .ref a_tape :: .int m_taped :: .int m_size :: .int m_at :: .int m_end :: .int m_token :: .int m_whole :: .int m_nameSize :: .int m_fault :: .int m_place :: .int m_trouble :: .ref a_letters :: .int m_failed :: .int m_hasHouse :: .ref a_r :: .ref a_fresh :: .ref a_st :: .ref a_undone :: .ref a_kept :: .int m_undos :: .int m_images :: .ref a_from :: .ref a_begin :: .ref a_motor :: .ref a_change :: .ref a_startFrame :: .ref a_changeFrame :: .ref a_lostAt :: .ref a_blackAt :: .ref a_slips :: .ref a_leftArc :: .ref a_died :: .ref a_arcs :: .int m_bestSum :: .int m_nearest :: .int m_nearestTown :: .ref a_there :: .ref a_backAt :: .ref a_sorted :: .ref a_parts :: .int m_seed1 :: .int m_darkNow :: []))), (a_r, .inl (g.2.2.1, 311, .inl d_r))]) := by
  refine cI.of (by decide) (Nat.le_of_ble_eq_true rfl) ?_
  intro p e s m args below meth c A X hr hi
  refine k_lveq [(0, .ref h0), (1, .int p0)] rfl ?_
  refine k_aload_n X dX11_reelAt_0 0 rfl ?_
  refine k_get (ci := 11) X inlX11 rfl 15 (by decide) dX11_reelAt_1 mw170 0 rfl rfl ?_
  refine k_bipush (v := 126) X dX11_reelAt_4 (by decide) ?_
  refine k_iload_n X dX11_reelAt_6 1 rfl ?_
  refine k_iadd X dX11_reelAt_7 ?_
  refine k_nm (fun z_1 ez_1 => ?_)
  have i_2 : z_1.toInt = 126 + p0.toInt := in_add ez_1 (show IV 126 126 126 from (by decide)) hv_p0 (by decide) (by decide)
  have iv_3 : IV z_1 126 133 := iz2 i_2 hv_p0 (by decide) (by decide)
  refine k_iald X dX11_reelAt_8 1 rfl (iv_in iv_3 (by decide) (by decide)) ?_
  refine k_nm (fun z_4 ez_4 => ?_)
  have i_5 : z_1.toInt = 126 + 1 * p0.toInt := by omega
  have iv_6 : IV z_4 0 7 := rb_126_1 ez_4 hp_d_r i_5 (iv_w hv_p0 (by decide) (by decide))
  exact k_iret X hr dX11_reelAt_9 (Nat.le_of_ble_eq_true rfl) (Nat.le_of_ble_eq_true rfl) [0, 1] (by decide) rfl rfl ⟨(iv_w iv_6 (by decide) (by decide)), ⟨z_1, ez_1, ⟨z_4, ez_4, rfl⟩⟩, rfl⟩


set_option maxHeartbeats 4000000 in
set_option maxRecDepth 100000 in
theorem m_framesAtX (l : Launch) (g : Gx) (h0 : Nat) (p0 : Int32) (m_thrown : Int32) (a_tape : Nat) (m_taped : Int32) (m_size : Int32) (m_at : Int32) (m_end : Int32) (m_token : Int32) (m_whole : Int32) (m_nameSize : Int32) (m_fault : Int32) (m_place : Int32) (m_trouble : Int32) (a_letters : Nat) (m_failed : Int32) (m_hasHouse : Int32) (a_r : Nat) (a_fresh : Nat) (a_st : Nat) (a_undone : Nat) (a_kept : Nat) (m_undos : Int32) (m_images : Int32) (a_from : Nat) (a_begin : Nat) (a_motor : Nat) (a_change : Nat) (a_startFrame : Nat) (a_changeFrame : Nat) (a_lostAt : Nat) (a_blackAt : Nat) (a_slips : Nat) (a_leftArc : Nat) (a_died : Nat) (a_arcs : Nat) (m_bestSum : Int32) (m_nearest : Int32) (m_nearestTown : Int32) (a_there : Nat) (a_backAt : Nat) (a_sorted : Nat) (a_parts : Nat) (m_seed1 : Int32) (m_darkNow : Int32) (d_r : Nat → Int32) (d_st : Nat → Int32) (hv_p0 : IV p0 0 7) (hp_d_r : RInv d_r) : cI l g yX11_framesAt cX11_framesAt 2 (some .int) 1 21 0 0 [.ref h0, .int p0] [(h0, .inr (11, (.int m_thrown :: .ref a_tape :: .int m_taped :: .int m_size :: .int m_at :: .int m_end :: .int m_token :: .int m_whole :: .int m_nameSize :: .int m_fault :: .int m_place :: .int m_trouble :: .ref a_letters :: .int m_failed :: .int m_hasHouse :: .ref a_r :: .ref a_fresh :: .ref a_st :: .ref a_undone :: .ref a_kept :: .int m_undos :: .int m_images :: .ref a_from :: .ref a_begin :: .ref a_motor :: .ref a_change :: .ref a_startFrame :: .ref a_changeFrame :: .ref a_lostAt :: .ref a_blackAt :: .ref a_slips :: .ref a_leftArc :: .ref a_died :: .ref a_arcs :: .int m_bestSum :: .int m_nearest :: .int m_nearestTown :: .ref a_there :: .ref a_backAt :: .ref a_sorted :: .ref a_parts :: .int m_seed1 :: .int m_darkNow :: []))), (a_r, .inl (g.2.2.1, 311, .inl d_r)), (a_st, .inl (g.2.2.1, 44, .inl d_st))] (fun r w => (R_m_framesAtX p0 d_r d_st r) ∧ w = [(h0, .inr (11, (.int m_thrown :: .ref a_tape :: .int m_taped :: .int m_size :: .int m_at :: .int m_end :: .int m_token :: .int m_whole :: .int m_nameSize :: .int m_fault :: .int m_place :: .int m_trouble :: .ref a_letters :: .int m_failed :: .int m_hasHouse :: .ref a_r :: .ref a_fresh :: .ref a_st :: .ref a_undone :: .ref a_kept :: .int m_undos :: .int m_images :: .ref a_from :: .ref a_begin :: .ref a_motor :: .ref a_change :: .ref a_startFrame :: .ref a_changeFrame :: .ref a_lostAt :: .ref a_blackAt :: .ref a_slips :: .ref a_leftArc :: .ref a_died :: .ref a_arcs :: .int m_bestSum :: .int m_nearest :: .int m_nearestTown :: .ref a_there :: .ref a_backAt :: .ref a_sorted :: .ref a_parts :: .int m_seed1 :: .int m_darkNow :: []))), (a_r, .inl (g.2.2.1, 311, .inl d_r)), (a_st, .inl (g.2.2.1, 44, .inl d_st))]) := by
  refine cI.of (by decide) (Nat.le_of_ble_eq_true rfl) ?_
  intro p e s m args below meth c A X hr hi
  refine k_lveq [(0, .ref h0), (1, .int p0)] rfl ?_
  refine k_aload_n X dX11_framesAt_0 0 rfl ?_
  refine k_get (ci := 11) X inlX11 rfl 17 (by decide) dX11_framesAt_1 mw172 0 rfl rfl ?_
  refine k_iconst (v := 0) X dX11_framesAt_4 (by decide) ?_
  refine k_aload_n X dX11_framesAt_5 0 rfl ?_
  refine k_iload_n X dX11_framesAt_6 1 rfl ?_
  refine k_callVI (n := 1) (As := [.int p0]) (st := [.int 0, .ref a_st]) X [(h0, .inr (11, (.int m_thrown :: .ref a_tape :: .int m_taped :: .int m_size :: .int m_at :: .int m_end :: .int m_token :: .int m_whole :: .int m_nameSize :: .int m_fault :: .int m_place :: .int m_trouble :: .ref a_letters :: .int m_failed :: .int m_hasHouse :: .ref a_r :: .ref a_fresh :: .ref a_st :: .ref a_undone :: .ref a_kept :: .int m_undos :: .int m_images :: .ref a_from :: .ref a_begin :: .ref a_motor :: .ref a_change :: .ref a_startFrame :: .ref a_changeFrame :: .ref a_lostAt :: .ref a_blackAt :: .ref a_slips :: .ref a_leftArc :: .ref a_died :: .ref a_arcs :: .int m_bestSum :: .int m_nearest :: .int m_nearestTown :: .ref a_there :: .ref a_backAt :: .ref a_sorted :: .ref a_parts :: .int m_seed1 :: .int m_darkNow :: []))), (a_r, .inl (g.2.2.1, 311, .inl d_r))] [(a_st, .inl (g.2.2.1, 44, .inl d_st))] [0, 1] [2] (m_reelAtX l g h0 p0 m_thrown a_tape m_taped m_size m_at m_end m_token m_whole m_nameSize m_fault m_place m_trouble a_letters m_failed m_hasHouse a_r a_fresh a_st a_undone a_kept m_undos m_images a_from a_begin a_motor a_change a_startFrame a_changeFrame a_lostAt a_blackAt a_slips a_leftArc a_died a_arcs m_bestSum m_nearest m_nearestTown a_there a_backAt a_sorted a_parts m_seed1 m_darkNow d_r (iv_w hv_p0 (by decide) (by decide)) hp_d_r) dX11_framesAt_7 mw723 mw724 mw725 mw5 mw726 rfl 11 rfl rfl 0 _ rfl yk_yX11_reelAt_1 rfl (Nat.le_of_ble_eq_true rfl) (Nat.le_of_ble_eq_true rfl) (Nat.le_of_ble_eq_true rfl) (Nat.le_of_ble_eq_true rfl) (Nat.le_of_ble_eq_true rfl) rfl rfl (by decide) rfl (by decide) (by decide) ?_
  rintro r_1 w ⟨iv_2, hq_3, rfl⟩
  refine k_ws [(a_st, .inl (g.2.2.1, 44, .inl d_st)), (h0, .inr (11, (.int m_thrown :: .ref a_tape :: .int m_taped :: .int m_size :: .int m_at :: .int m_end :: .int m_token :: .int m_whole :: .int m_nameSize :: .int m_fault :: .int m_place :: .int m_trouble :: .ref a_letters :: .int m_failed :: .int m_hasHouse :: .ref a_r :: .ref a_fresh :: .ref a_st :: .ref a_undone :: .ref a_kept :: .int m_undos :: .int m_images :: .ref a_from :: .ref a_begin :: .ref a_motor :: .ref a_change :: .ref a_startFrame :: .ref a_changeFrame :: .ref a_lostAt :: .ref a_blackAt :: .ref a_slips :: .ref a_leftArc :: .ref a_died :: .ref a_arcs :: .int m_bestSum :: .int m_nearest :: .int m_nearestTown :: .ref a_there :: .ref a_backAt :: .ref a_sorted :: .ref a_parts :: .int m_seed1 :: .int m_darkNow :: []))), (a_r, .inl (g.2.2.1, 311, .inl d_r))] rfl ?_
  refine k_iadd X dX11_framesAt_10 ?_
  refine k_nm (fun z_4 ez_4 => ?_)
  have i_5 : z_4.toInt = 0 + r_1.toInt := in_add ez_4 (show IV 0 0 0 from (by decide)) iv_2 (by decide) (by decide)
  have iv_6 : IV z_4 0 7 := by have := (show IV 0 0 0 from (by decide)); have := iv_2; rw [IV, i_5]; omega
  refine k_iald X dX11_framesAt_11 0 rfl (iv_in iv_6 (by decide) (by decide)) ?_
  refine k_nm (fun z_7 ez_7 => ?_)
  exact k_iret X hr dX11_framesAt_12 (Nat.le_of_ble_eq_true rfl) (Nat.le_of_ble_eq_true rfl) [1, 2, 0] (by decide) rfl rfl ⟨⟨r_1, hq_3, ⟨z_4, ez_4, ⟨z_7, ez_7, rfl⟩⟩⟩, rfl⟩


set_option maxHeartbeats 4000000 in
set_option maxRecDepth 100000 in
theorem m_markOfX (l : Launch) (g : Gx) (h0 : Nat) (p0 : Int32) (p1 : Int32) (m_thrown : Int32) (a_tape : Nat) (m_taped : Int32) (m_size : Int32) (m_at : Int32) (m_end : Int32) (m_token : Int32) (m_whole : Int32) (m_nameSize : Int32) (m_fault : Int32) (m_place : Int32) (m_trouble : Int32) (a_letters : Nat) (m_failed : Int32) (m_hasHouse : Int32) (a_r : Nat) (a_fresh : Nat) (a_st : Nat) (a_undone : Nat) (a_kept : Nat) (m_undos : Int32) (m_images : Int32) (a_from : Nat) (a_begin : Nat) (a_motor : Nat) (a_change : Nat) (a_startFrame : Nat) (a_changeFrame : Nat) (a_lostAt : Nat) (a_blackAt : Nat) (a_slips : Nat) (a_leftArc : Nat) (a_died : Nat) (a_arcs : Nat) (m_bestSum : Int32) (m_nearest : Int32) (m_nearestTown : Int32) (a_there : Nat) (a_backAt : Nat) (a_sorted : Nat) (a_parts : Nat) (m_seed1 : Int32) (m_darkNow : Int32) (d_r : Nat → Int32) (d_st : Nat → Int32) (hp_d_r : RInv d_r) : cI l g yX11_markOf cX11_markOf 4 (some .int) 0 0 0 0 [.ref h0, .int p0, .int p1] [(h0, .inr (11, (.int m_thrown :: .ref a_tape :: .int m_taped :: .int m_size :: .int m_at :: .int m_end :: .int m_token :: .int m_whole :: .int m_nameSize :: .int m_fault :: .int m_place :: .int m_trouble :: .ref a_letters :: .int m_failed :: .int m_hasHouse :: .ref a_r :: .ref a_fresh :: .ref a_st :: .ref a_undone :: .ref a_kept :: .int m_undos :: .int m_images :: .ref a_from :: .ref a_begin :: .ref a_motor :: .ref a_change :: .ref a_startFrame :: .ref a_changeFrame :: .ref a_lostAt :: .ref a_blackAt :: .ref a_slips :: .ref a_leftArc :: .ref a_died :: .ref a_arcs :: .int m_bestSum :: .int m_nearest :: .int m_nearestTown :: .ref a_there :: .ref a_backAt :: .ref a_sorted :: .ref a_parts :: .int m_seed1 :: .int m_darkNow :: []))), (a_r, .inl (g.2.2.1, 311, .inl d_r)), (a_st, .inl (g.2.2.1, 44, .inl d_st))] (fun r w => (R_m_markOfX p0 p1 d_r d_st r) ∧ w = [(h0, .inr (11, (.int m_thrown :: .ref a_tape :: .int m_taped :: .int m_size :: .int m_at :: .int m_end :: .int m_token :: .int m_whole :: .int m_nameSize :: .int m_fault :: .int m_place :: .int m_trouble :: .ref a_letters :: .int m_failed :: .int m_hasHouse :: .ref a_r :: .ref a_fresh :: .ref a_st :: .ref a_undone :: .ref a_kept :: .int m_undos :: .int m_images :: .ref a_from :: .ref a_begin :: .ref a_motor :: .ref a_change :: .ref a_startFrame :: .ref a_changeFrame :: .ref a_lostAt :: .ref a_blackAt :: .ref a_slips :: .ref a_leftArc :: .ref a_died :: .ref a_arcs :: .int m_bestSum :: .int m_nearest :: .int m_nearestTown :: .ref a_there :: .ref a_backAt :: .ref a_sorted :: .ref a_parts :: .int m_seed1 :: .int m_darkNow :: []))), (a_r, .inl (g.2.2.1, 311, .inl d_r)), (a_st, .inl (g.2.2.1, 44, .inl d_st))]) := by
  refine cI.of (by decide) (Nat.le_of_ble_eq_true rfl) ?_
  intro p e s m args below meth c A X hr hi
  refine k_lveq [(0, .ref h0), (1, .int p0), (2, .int p1)] rfl ?_
  refine k_iconst (v := 0) X dX11_markOf_0 (by decide) ?_
  refine k_istore_n [(3, .int 0), (0, .ref h0), (1, .int p0), (2, .int p1)] X dX11_markOf_1 (by decide) rfl ?_
  refine (fun hL : ∀ (nn_3 : Nat) (u_1 : Int32), (2147483647 - u_1.toInt).toNat = nn_3 → (IV u_1 0 255) → (∀ (r : Int32), (∃ n_0 : Nat, R_m_markOfX_L0 p0 p1 d_r d_st r (r = (-2)) n_0 u_1) → R_m_markOfX p0 p1 d_r d_st r) → Wk p l e _ s m args below meth c _ A g _ _ _ [(h0, .inr (11, (.int m_thrown :: .ref a_tape :: .int m_taped :: .int m_size :: .int m_at :: .int m_end :: .int m_token :: .int m_whole :: .int m_nameSize :: .int m_fault :: .int m_place :: .int m_trouble :: .ref a_letters :: .int m_failed :: .int m_hasHouse :: .ref a_r :: .ref a_fresh :: .ref a_st :: .ref a_undone :: .ref a_kept :: .int m_undos :: .int m_images :: .ref a_from :: .ref a_begin :: .ref a_motor :: .ref a_change :: .ref a_startFrame :: .ref a_changeFrame :: .ref a_lostAt :: .ref a_blackAt :: .ref a_slips :: .ref a_leftArc :: .ref a_died :: .ref a_arcs :: .int m_bestSum :: .int m_nearest :: .int m_nearestTown :: .ref a_there :: .ref a_backAt :: .ref a_sorted :: .ref a_parts :: .int m_seed1 :: .int m_darkNow :: []))), (a_r, .inl (g.2.2.1, 311, .inl d_r)), (a_st, .inl (g.2.2.1, 44, .inl d_st))] [(3, .int u_1), (0, .ref h0), (1, .int p0), (2, .int p1)] 2 [] => hL _ 0 rfl (iv_w (show IV 0 0 0 from (by decide)) (by decide) (by decide)) (fun r h => h)) ?_
  refine fun nn_3 => Nat.strongRecOn nn_3 (fun nn_3 ih_5 => ?_)
  intro u_1 hm_4 hv_2 KH_0
  refine k_iload_n X dX11_markOf_2 0 rfl ?_
  refine k_aload_n X dX11_markOf_3 1 rfl ?_
  refine k_get (ci := 11) X inlX11 rfl 15 (by decide) dX11_markOf_4 mw170 0 rfl rfl ?_
  refine k_bipush (v := 8) X dX11_markOf_7 (by decide) ?_
  refine k_iald X dX11_markOf_9 1 rfl (by unfold vp_in; decide) ?_
  refine k_nm (fun z_6 ez_6 => ?_)
  have i_7 : z_6.toInt = (d_r 8).toInt := by rw [ez_6]; rfl
  have iv_8 : IV z_6 0 12 := rb_8 ez_6 hp_d_r
  refine k_ic_ge 61 X dX11_markOf_10 (by decide) (fun h_9 => ?_) (fun h_9 => ?_)
  · skip
    have j_10 : z_6.toInt ≤ u_1.toInt := iv_le h_9
    refine k_bipush (v := -2) X dX11_markOf_61 (by decide) ?_
    exact k_iret X hr dX11_markOf_63 (Nat.le_of_ble_eq_true rfl) (Nat.le_of_ble_eq_true rfl) [0, 1, 2] (by decide) rfl rfl ⟨(KH_0 _ ⟨0 + 1, ⟨z_6, ez_6, (Or.inl ⟨h_9, rfl⟩)⟩⟩), rfl⟩
  · skip
    have j_11 : u_1.toInt < z_6.toInt := iv_nle h_9
    have iv_12 : IV u_1 0 11 := iv_ltL (iv_nle h_9) hv_2 iv_8 (by decide)
    have iv_13 : IV z_6 1 12 := iv_ltR (iv_nle h_9) hv_2 iv_8 (by decide)
    refine k_aload_n X dX11_markOf_13 1 rfl ?_
    refine k_get (ci := 11) X inlX11 rfl 15 (by decide) dX11_markOf_14 mw170 0 rfl rfl ?_
    refine k_bipush (v := 44) X dX11_markOf_17 (by decide) ?_
    refine k_iconst (v := 3) X dX11_markOf_19 (by decide) ?_
    refine k_iload_n X dX11_markOf_20 0 rfl ?_
    refine k_imul X dX11_markOf_21 ?_
    refine k_nm (fun z_14 ez_14 => ?_)
    have i_15 : z_14.toInt = 3 * u_1.toInt := in_mul ez_14 (by decide) (by decide) iv_12 (by decide) (by decide)
    have iv_16 : IV z_14 0 33 := iz4 i_15 iv_12 (by decide) (by decide) (by decide)
    refine k_iadd X dX11_markOf_22 ?_
    refine k_nm (fun z_17 ez_17 => ?_)
    have i_18 : z_17.toInt = 44 + z_14.toInt := in_add ez_17 (show IV 44 44 44 from (by decide)) iv_16 (by decide) (by decide)
    have iv_19 : IV z_17 44 77 := iz2 i_18 iv_16 (by decide) (by decide)
    refine k_iald X dX11_markOf_23 1 rfl (iv_in iv_19 (by decide) (by decide)) ?_
    refine k_nm (fun z_20 ez_20 => ?_)
    have i_21 : z_17.toInt = 44 + 3 * u_1.toInt := by omega
    have iv_22 : IV z_20 0 7 := rb_44_3 ez_20 hp_d_r i_21 (iv_w iv_12 (by decide) (by decide))
    refine k_iload_n X dX11_markOf_24 2 rfl ?_
    refine k_ic_ne 55 X dX11_markOf_25 (by decide) (fun h_23 => ?_) (fun h_23 => ?_)
    · skip
      obtain ⟨z_24, ez_24⟩ : ∃ y : Int32, u_1 + Int32.ofInt 1 = y := ⟨_, rfl⟩
      refine k_iinc z_24 [(3, .int z_24), (0, .ref h0), (1, .int p0), (2, .int p1)] 0 X dX11_markOf_55 rfl ez_24 (by decide) rfl ?_
      have i_25 : z_24.toInt = u_1.toInt + 1 := in_inc ez_24 (by decide) iv_12 (by decide) (by decide)
      have iv_26 : IV z_24 1 12 := iz1 i_25 iv_12 (by decide) (by decide)
      refine k_goto 2 X dX11_markOf_58 (by decide) ?_
      exact ih_5 _ (by omega) z_24 rfl (iv_w iv_26 (by decide) (by decide)) (fun r h => h.elim (fun n_0 q => (KH_0 _ ⟨n_0 + 1, ⟨z_6, ez_6, (Or.inr ⟨h_9, ⟨z_14, ez_14, ⟨z_17, ez_17, ⟨z_20, ez_20, (Or.inl ⟨h_23, ⟨z_24, ez_24, q⟩⟩)⟩⟩⟩⟩)⟩⟩)))
    · skip
      have iv_27 : IV p0 0 7 := iv_meet (iv_any p0) (iv_e h_23.symm iv_22) (by decide) (by decide)
      refine k_aload_n X dX11_markOf_28 1 rfl ?_
      refine k_get (ci := 11) X inlX11 rfl 15 (by decide) dX11_markOf_29 mw170 0 rfl rfl ?_
      refine k_bipush (v := 44) X dX11_markOf_32 (by decide) ?_
      refine k_iconst (v := 3) X dX11_markOf_34 (by decide) ?_
      refine k_iload_n X dX11_markOf_35 0 rfl ?_
      refine k_imul X dX11_markOf_36 ?_
      refine k_to z_14 ez_14.symm ?_
      refine k_iadd X dX11_markOf_37 ?_
      refine k_to z_17 ez_17.symm ?_
      refine k_iconst (v := 2) X dX11_markOf_38 (by decide) ?_
      refine k_iadd X dX11_markOf_39 ?_
      refine k_nm (fun z_28 ez_28 => ?_)
      have i_29 : z_28.toInt = z_17.toInt + 2 := in_add ez_28 iv_19 (show IV 2 2 2 from (by decide)) (by decide) (by decide)
      have iv_30 : IV z_28 46 79 := iz1 i_29 iv_19 (by decide) (by decide)
      refine k_iald X dX11_markOf_40 1 rfl (iv_in iv_30 (by decide) (by decide)) ?_
      refine k_nm (fun z_31 ez_31 => ?_)
      have i_32 : z_28.toInt = 46 + 3 * u_1.toInt := by omega
      have iv_33 : IV z_31 0 3 := rb_46_3 ez_31 hp_d_r i_32 (iv_w iv_12 (by decide) (by decide))
      refine k_iload_n X dX11_markOf_41 3 rfl ?_
      refine k_ic_ne 55 X dX11_markOf_42 (by decide) (fun h_34 => ?_) (fun h_34 => ?_)
      · skip
        obtain ⟨z_35, ez_35⟩ : ∃ y : Int32, u_1 + Int32.ofInt 1 = y := ⟨_, rfl⟩
        refine k_iinc z_35 [(3, .int z_35), (0, .ref h0), (1, .int p0), (2, .int p1)] 0 X dX11_markOf_55 rfl ez_35 (by decide) rfl ?_
        have i_36 : z_35.toInt = u_1.toInt + 1 := in_inc ez_35 (by decide) iv_12 (by decide) (by decide)
        have iv_37 : IV z_35 1 12 := iz1 i_36 iv_12 (by decide) (by decide)
        refine k_goto 2 X dX11_markOf_58 (by decide) ?_
        exact ih_5 _ (by omega) z_35 rfl (iv_w iv_37 (by decide) (by decide)) (fun r h => h.elim (fun n_0 q => (KH_0 _ ⟨n_0 + 1, ⟨z_6, ez_6, (Or.inr ⟨h_9, ⟨z_14, ez_14, ⟨z_17, ez_17, ⟨z_20, ez_20, (Or.inr ⟨h_23, ⟨z_28, ez_28, ⟨z_31, ez_31, (Or.inl ⟨h_34, ⟨z_35, ez_35, q⟩⟩)⟩⟩⟩)⟩⟩⟩⟩)⟩⟩)))
      · skip
        have iv_38 : IV p1 0 3 := iv_meet (iv_any p1) (iv_e h_34.symm iv_33) (by decide) (by decide)
        refine k_aload_n X dX11_markOf_45 1 rfl ?_
        refine k_get (ci := 11) X inlX11 rfl 17 (by decide) dX11_markOf_46 mw172 0 rfl rfl ?_
        refine k_bipush (v := 16) X dX11_markOf_49 (by decide) ?_
        refine k_iload_n X dX11_markOf_51 0 rfl ?_
        refine k_iadd X dX11_markOf_52 ?_
        refine k_nm (fun z_39 ez_39 => ?_)
        have i_40 : z_39.toInt = 16 + u_1.toInt := in_add ez_39 (show IV 16 16 16 from (by decide)) iv_12 (by decide) (by decide)
        have iv_41 : IV z_39 16 27 := iz2 i_40 iv_12 (by decide) (by decide)
        refine k_iald X dX11_markOf_53 2 rfl (iv_in iv_41 (by decide) (by decide)) ?_
        refine k_nm (fun z_42 ez_42 => ?_)
        exact k_iret X hr dX11_markOf_54 (Nat.le_of_ble_eq_true rfl) (Nat.le_of_ble_eq_true rfl) [0, 1, 2] (by decide) rfl rfl ⟨(KH_0 _ ⟨0 + 1, ⟨z_6, ez_6, (Or.inr ⟨h_9, ⟨z_14, ez_14, ⟨z_17, ez_17, ⟨z_20, ez_20, (Or.inr ⟨h_23, ⟨z_28, ez_28, ⟨z_31, ez_31, (Or.inr ⟨h_34, ⟨z_39, ez_39, ⟨z_42, ez_42, rfl⟩⟩⟩)⟩⟩⟩)⟩⟩⟩⟩)⟩⟩), rfl⟩

