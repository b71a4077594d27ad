theorem dX11_signsOf_0 : decode cX11_signsOf 0 = .ok (.aload_n 0, 1) := dk_42 rfl
theorem dX11_signsOf_1 : decode cX11_signsOf 1 = .ok (.iload_n 1, 1) := dk_27 rfl
theorem dX11_signsOf_2 : decode cX11_signsOf 2 = .ok (.invokevirtual 373, 3) := dk_182 rfl rfl rfl rfl
theorem dX11_signsOf_5 : decode cX11_signsOf 5 = .ok (.iconst 0, 1) := dk_3 rfl
theorem dX11_signsOf_6 : decode cX11_signsOf 6 = .ok (.istore_n 2, 1) := dk_61 rfl
theorem dX11_signsOf_7 : decode cX11_signsOf 7 = .ok (.iconst 0, 1) := dk_3 rfl
theorem dX11_signsOf_8 : decode cX11_signsOf 8 = .ok (.istore_n 3, 1) := dk_62 rfl
theorem dX11_signsOf_9 : decode cX11_signsOf 9 = .ok (.iload_n 3, 1) := dk_29 rfl
theorem dX11_signsOf_10 : decode cX11_signsOf 10 = .ok (.aload_n 0, 1) := dk_42 rfl
theorem dX11_signsOf_11 : decode cX11_signsOf 11 = .ok (.getfield 20, 3) := dk_180 rfl rfl rfl rfl
theorem dX11_signsOf_14 : decode cX11_signsOf 14 = .ok (.bipush 13, 2) := dk_16 rfl rfl (by decide)
theorem dX11_signsOf_16 : decode cX11_signsOf 16 = .ok (.iaload, 1) := dk_46 rfl
theorem dX11_signsOf_17 : decode cX11_signsOf 17 = .ok (.if_icmp .ge 76, 3) := dk_162 rfl rfl rfl (by decide)
theorem dX11_signsOf_20 : decode cX11_signsOf 20 = .ok (.sipush 137, 3) := dk_17 rfl rfl rfl (by decide)
theorem dX11_signsOf_23 : decode cX11_signsOf 23 = .ok (.iconst 3, 1) := dk_6 rfl
theorem dX11_signsOf_24 : decode cX11_signsOf 24 = .ok (.iload_n 3, 1) := dk_29 rfl
theorem dX11_signsOf_25 : decode cX11_signsOf 25 = .ok (.imul, 1) := dk_104 rfl
theorem dX11_signsOf_26 : decode cX11_signsOf 26 = .ok (.iadd, 1) := dk_96 rfl
theorem dX11_signsOf_27 : decode cX11_signsOf 27 = .ok (.istore 4, 2) := dk_54 rfl rfl rfl
theorem dX11_signsOf_29 : decode cX11_signsOf 29 = .ok (.iload_n 2, 1) := dk_28 rfl
theorem dX11_signsOf_30 : decode cX11_signsOf 30 = .ok (.aload_n 0, 1) := dk_42 rfl
theorem dX11_signsOf_31 : decode cX11_signsOf 31 = .ok (.getfield 56, 3) := dk_180 rfl rfl rfl rfl
theorem dX11_signsOf_34 : decode cX11_signsOf 34 = .ok (.aload_n 0, 1) := dk_42 rfl
theorem dX11_signsOf_35 : decode cX11_signsOf 35 = .ok (.getfield 20, 3) := dk_180 rfl rfl rfl rfl
theorem dX11_signsOf_38 : decode cX11_signsOf 38 = .ok (.iload 4, 2) := dk_21 rfl rfl rfl
theorem dX11_signsOf_40 : decode cX11_signsOf 40 = .ok (.iaload, 1) := dk_46 rfl
theorem dX11_signsOf_41 : decode cX11_signsOf 41 = .ok (.iaload, 1) := dk_46 rfl
theorem dX11_signsOf_42 : decode cX11_signsOf 42 = .ok (.aload_n 0, 1) := dk_42 rfl
theorem dX11_signsOf_43 : decode cX11_signsOf 43 = .ok (.getfield 20, 3) := dk_180 rfl rfl rfl rfl
theorem dX11_signsOf_46 : decode cX11_signsOf 46 = .ok (.iload 4, 2) := dk_21 rfl rfl rfl
theorem dX11_signsOf_48 : decode cX11_signsOf 48 = .ok (.iconst 1, 1) := dk_4 rfl
theorem dX11_signsOf_49 : decode cX11_signsOf 49 = .ok (.iadd, 1) := dk_96 rfl
theorem dX11_signsOf_50 : decode cX11_signsOf 50 = .ok (.iaload, 1) := dk_46 rfl
theorem dX11_signsOf_51 : decode cX11_signsOf 51 = .ok (.if_icmp .ne 33, 3) := dk_160 rfl rfl rfl (by decide)
theorem dX11_signsOf_54 : decode cX11_signsOf 54 = .ok (.aload_n 0, 1) := dk_42 rfl
theorem dX11_signsOf_55 : decode cX11_signsOf 55 = .ok (.getfield 53, 3) := dk_180 rfl rfl rfl rfl
theorem dX11_signsOf_58 : decode cX11_signsOf 58 = .ok (.aload_n 0, 1) := dk_42 rfl
theorem dX11_signsOf_59 : decode cX11_signsOf 59 = .ok (.getfield 20, 3) := dk_180 rfl rfl rfl rfl
theorem dX11_signsOf_62 : decode cX11_signsOf 62 = .ok (.iload 4, 2) := dk_21 rfl rfl rfl
theorem dX11_signsOf_64 : decode cX11_signsOf 64 = .ok (.iaload, 1) := dk_46 rfl
theorem dX11_signsOf_65 : decode cX11_signsOf 65 = .ok (.iaload, 1) := dk_46 rfl
theorem dX11_signsOf_66 : decode cX11_signsOf 66 = .ok (.aload_n 0, 1) := dk_42 rfl
theorem dX11_signsOf_67 : decode cX11_signsOf 67 = .ok (.getfield 20, 3) := dk_180 rfl rfl rfl rfl
theorem dX11_signsOf_70 : decode cX11_signsOf 70 = .ok (.iload 4, 2) := dk_21 rfl rfl rfl
theorem dX11_signsOf_72 : decode cX11_signsOf 72 = .ok (.iconst 2, 1) := dk_5 rfl
theorem dX11_signsOf_73 : decode cX11_signsOf 73 = .ok (.iadd, 1) := dk_96 rfl
theorem dX11_signsOf_74 : decode cX11_signsOf 74 = .ok (.iaload, 1) := dk_46 rfl
theorem dX11_signsOf_75 : decode cX11_signsOf 75 = .ok (.if_icmp .ne 9, 3) := dk_160 rfl rfl rfl (by decide)
theorem dX11_signsOf_78 : decode cX11_signsOf 78 = .ok (.iconst 1, 1) := dk_4 rfl
theorem dX11_signsOf_79 : decode cX11_signsOf 79 = .ok (.iload_n 3, 1) := dk_29 rfl
theorem dX11_signsOf_80 : decode cX11_signsOf 80 = .ok (.ishl, 1) := dk_120 rfl
theorem dX11_signsOf_81 : decode cX11_signsOf 81 = .ok (.goto 4, 3) := dk_167 rfl rfl rfl (by decide)
theorem dX11_signsOf_84 : decode cX11_signsOf 84 = .ok (.iconst 0, 1) := dk_3 rfl
theorem dX11_signsOf_85 : decode cX11_signsOf 85 = .ok (.ior, 1) := dk_128 rfl
theorem dX11_signsOf_86 : decode cX11_signsOf 86 = .ok (.istore_n 2, 1) := dk_61 rfl
theorem dX11_signsOf_87 : decode cX11_signsOf 87 = .ok (.iinc 3 1, 3) := dk_132 rfl rfl rfl rfl (by decide)
theorem dX11_signsOf_90 : decode cX11_signsOf 90 = .ok (.goto (-81), 3) := dk_167 rfl rfl rfl (by decide)
theorem dX11_signsOf_93 : decode cX11_signsOf 93 = .ok (.iload_n 2, 1) := dk_28 rfl
theorem dX11_signsOf_94 : decode cX11_signsOf 94 = .ok (.ireturn, 1) := dk_172 rfl
set_option maxHeartbeats 4000000 in
set_option maxRecDepth 100000 in
theorem m_signsOf (l : Launch) (g : Gx) (h0 : Nat) (p0 : Int32) (m_thrown : Int32) (a_tape : Nat) (m_taped : Int32) (m_size : Int32) (m_at : Int32) (m_end : Int32) (m_token : Int32) (m_whole : Int32) (m_nameSize : Int32) (m_fault : Int32) (m_place : Int32) (m_trouble : Int32) (a_letters : Nat) (m_failed : Int32) (m_hasHouse : Int32) (a_r : Nat) (a_fresh : Nat) (a_st : Nat) (a_undone : Nat) (a_kept : Nat) (m_undos : Int32) (m_images : Int32) (a_from : Nat) (a_begin : Nat) (a_motor : Nat) (a_change : Nat) (a_startFrame : Nat) (a_changeFrame : Nat) (a_lostAt : Nat) (a_blackAt : Nat) (a_slips : Nat) (a_leftArc : Nat) (a_died : Nat) (a_arcs : Nat) (m_bestSum : Int32) (m_nearest : Int32) (m_nearestTown : Int32) (a_there : Nat) (a_backAt : Nat) (a_sorted : Nat) (a_parts : Nat) (m_seed1 : Int32) (m_darkNow : Int32) (d_r : Nat → Int32) (d_st : Nat → Int32) (d_from : Nat → Int32) (d_begin : Nat → Int32) (d_motor : Nat → Int32) (d_change : Nat → Int32) (d_startFrame : Nat → Int32) (d_changeFrame : Nat → Int32) (d_lostAt : Nat → Int32) (d_blackAt : Nat → Int32) (d_slips : Nat → Int32) (hv_p0 : IV p0 0 3) (hp_d_r : RInv d_r) : cI l g yX11_signsOf cX11_signsOf 5 (some .int) 5 110 0 0 [.ref h0, .int p0] [(cO11_i1r1i10r1i2r5i2r12i3r4i2 h0 m_thrown a_tape m_taped m_size m_at m_end m_token m_whole m_nameSize m_fault m_place m_trouble a_letters m_failed m_hasHouse a_r a_fresh a_st a_undone a_kept m_undos m_images a_from a_begin a_motor a_change a_startFrame a_changeFrame a_lostAt a_blackAt a_slips a_leftArc a_died a_arcs m_bestSum m_nearest m_nearestTown a_there a_backAt a_sorted a_parts m_seed1 m_darkNow), (cAI g a_r 311 d_r), (cAI g a_st 44 d_st), (cAI g a_from 8 d_from), (cAI g a_begin 8 d_begin), (cAI g a_motor 8 d_motor), (cAI g a_change 8 d_change), (cAI g a_startFrame 8 d_startFrame), (cAI g a_changeFrame 8 d_changeFrame), (cAI g a_lostAt 8 d_lostAt), (cAI g a_blackAt 8 d_blackAt), (cAI g a_slips 8 d_slips)] (fun r w => ∃ (d_begin2 : Nat → Int32) (d_blackAt2 : Nat → Int32) (d_change2 : Nat → Int32) (d_changeFrame2 : Nat → Int32) (d_from2 : Nat → Int32) (d_lostAt2 : Nat → Int32) (d_motor2 : Nat → Int32) (d_slips2 : Nat → Int32) (d_startFrame2 : Nat → Int32), w = [(cO11_i1r1i10r1i2r5i2r12i3r4i2 h0 m_thrown a_tape m_taped m_size m_at m_end m_token m_whole m_nameSize m_fault m_place m_trouble a_letters m_failed m_hasHouse a_r a_fresh a_st a_undone a_kept m_undos m_images a_from a_begin a_motor a_change a_startFrame a_changeFrame a_lostAt a_blackAt a_slips a_leftArc a_died a_arcs m_bestSum m_nearest m_nearestTown a_there a_backAt a_sorted a_parts m_seed1 m_darkNow), (cAI g a_r 311 d_r), (cAI g a_st 44 d_st), (cAI g a_from 8 d_from2), (cAI g a_begin 8 d_begin2), (cAI g a_motor 8 d_motor2), (cAI g a_change 8 d_change2), (cAI g a_startFrame 8 d_startFrame2), (cAI g a_changeFrame 8 d_changeFrame2), (cAI g a_lostAt 8 d_lostAt2), (cAI g a_blackAt 8 d_blackAt2), (cAI g a_slips 8 d_slips2)]) := by
  refine cI.of (by decide) (Nat.le_of_ble_eq_true rfl) ?_
  intro p e s m args below meth c A X hr hi
  refine k_lveq [(0, .ref h0), (1, .int p0)] rfl ?_
  refine k_aload_n X dX11_signsOf_0 0 rfl ?_
  refine k_iload_n X dX11_signsOf_1 1 rfl ?_
  refine k_callVV (n := 1) (As := [.int p0]) (st := []) X [(cO11_i1r1i10r1i2r5i2r12i3r4i2 h0 m_thrown a_tape m_taped m_size m_at m_end m_token m_whole m_nameSize m_fault m_place m_trouble a_letters m_failed m_hasHouse a_r a_fresh a_st a_undone a_kept m_undos m_images a_from a_begin a_motor a_change a_startFrame a_changeFrame a_lostAt a_blackAt a_slips a_leftArc a_died a_arcs m_bestSum m_nearest m_nearestTown a_there a_backAt a_sorted a_parts m_seed1 m_darkNow), (cAI g a_r 311 d_r), (cAI g a_st 44 d_st), (cAI g a_from 8 d_from), (cAI g a_begin 8 d_begin), (cAI g a_motor 8 d_motor), (cAI g a_change 8 d_change), (cAI g a_startFrame 8 d_startFrame), (cAI g a_changeFrame 8 d_changeFrame), (cAI g a_lostAt 8 d_lostAt), (cAI g a_blackAt 8 d_blackAt), (cAI g a_slips 8 d_slips)] [] [0, 1, 2, 3, 4, 5, 6, 7, 8, 9, 10, 11] [] (m_layTold l g h0 p0 m_thrown a_tape m_taped m_size m_at m_end m_token m_whole m_nameSize m_fault m_place m_trouble a_letters m_failed m_hasHouse a_r a_fresh a_st a_undone a_kept m_undos m_images a_from a_begin a_motor a_change a_startFrame a_changeFrame a_lostAt a_blackAt a_slips a_leftArc a_died a_arcs m_bestSum m_nearest m_nearestTown a_there a_backAt a_sorted a_parts m_seed1 m_darkNow d_r d_st d_from d_begin d_motor d_change d_startFrame d_changeFrame d_lostAt d_blackAt d_slips (iv_w hv_p0 (by decide) (by decide)) hp_d_r) dX11_signsOf_2 mw815 mw816 mw817 mw5 mw818 rfl 11 rfl rfl 0 _ rfl yk_yX11_layTold_1 rfl (Nat.le_of_ble_eq_true rfl) (Nat.le_of_ble_eq_true rfl) (Nat.le_of_ble_eq_true rfl) (Nat.le_of_ble_eq_true rfl) (Nat.le_of_ble_eq_true rfl) rfl rfl (by decide +kernel) rfl (by decide +kernel) (by decide +kernel) ?_
  rintro w ⟨d_begin2_1, d_blackAt2_2, d_change2_3, d_changeFrame2_4, d_from2_5, d_lostAt2_6, d_motor2_7, d_slips2_8, d_startFrame2_9, rfl⟩
  refine k_ws [(cO11_i1r1i10r1i2r5i2r12i3r4i2 h0 m_thrown a_tape m_taped m_size m_at m_end m_token m_whole m_nameSize m_fault m_place m_trouble a_letters m_failed m_hasHouse a_r a_fresh a_st a_undone a_kept m_undos m_images a_from a_begin a_motor a_change a_startFrame a_changeFrame a_lostAt a_blackAt a_slips a_leftArc a_died a_arcs m_bestSum m_nearest m_nearestTown a_there a_backAt a_sorted a_parts m_seed1 m_darkNow), (cAI g a_r 311 d_r), (cAI g a_st 44 d_st), (cAI g a_from 8 d_from2_5), (cAI g a_begin 8 d_begin2_1), (cAI g a_motor 8 d_motor2_7), (cAI g a_change 8 d_change2_3), (cAI g a_startFrame 8 d_startFrame2_9), (cAI g a_changeFrame 8 d_changeFrame2_4), (cAI g a_lostAt 8 d_lostAt2_6), (cAI g a_blackAt 8 d_blackAt2_2), (cAI g a_slips 8 d_slips2_8)] rfl ?_
  refine k_iconst (v := 0) X dX11_signsOf_5 (by decide) ?_
  refine k_istore_n [(2, .int 0), (0, .ref h0), (1, .int p0)] X dX11_signsOf_6 (by decide) rfl ?_
  refine k_iconst (v := 0) X dX11_signsOf_7 (by decide) ?_
  refine k_istore_n [(3, .int 0), (2, .int 0), (0, .ref h0), (1, .int p0)] X dX11_signsOf_8 (by decide) rfl ?_
  refine (fun hL : ∀ (nn_14 : Nat) (u_11 : Int32) (u_12 : Int32), (2147483647 - u_12.toInt).toNat = nn_14 → (IV u_12 0 8) → Wk p l e _ s m args below meth c _ A g _ _ _ [(cO11_i1r1i10r1i2r5i2r12i3r4i2 h0 m_thrown a_tape m_taped m_size m_at m_end m_token m_whole m_nameSize m_fault m_place m_trouble a_letters m_failed m_hasHouse a_r a_fresh a_st a_undone a_kept m_undos m_images a_from a_begin a_motor a_change a_startFrame a_changeFrame a_lostAt a_blackAt a_slips a_leftArc a_died a_arcs m_bestSum m_nearest m_nearestTown a_there a_backAt a_sorted a_parts m_seed1 m_darkNow), (cAI g a_r 311 d_r), (cAI g a_st 44 d_st), (cAI g a_from 8 d_from2_5), (cAI g a_begin 8 d_begin2_1), (cAI g a_motor 8 d_motor2_7), (cAI g a_change 8 d_change2_3), (cAI g a_startFrame 8 d_startFrame2_9), (cAI g a_changeFrame 8 d_changeFrame2_4), (cAI g a_lostAt 8 d_lostAt2_6), (cAI g a_blackAt 8 d_blackAt2_2), (cAI g a_slips 8 d_slips2_8)] [(3, .int u_12), (2, .int u_11), (0, .ref h0), (1, .int p0)] 9 [] => hL _ 0 0 rfl (iv_w (show IV 0 0 0 from (by decide)) (by decide) (by decide))) ?_
  refine fun nn_14 => Nat.strongRecOn nn_14 (fun nn_14 ih_16 => ?_)
  intro u_11 u_12 hm_15 hv_13
  refine k_iload_n X dX11_signsOf_9 0 rfl ?_
  refine k_aload_n X dX11_signsOf_10 2 rfl ?_
  refine k_get (ci := 11) X inlX11 rfl 15 (by decide) dX11_signsOf_11 mw170 0 rfl rfl ?_
  refine k_bipush (v := 13) X dX11_signsOf_14 (by decide) ?_
  refine k_iald X dX11_signsOf_16 1 rfl (by unfold vp_in; decide) ?_
  refine k_nm (fun z_17 ez_17 => ?_)
  have i_18 : z_17.toInt = (d_r 13).toInt := by rw [ez_17]; rfl
  have iv_19 : IV z_17 0 6 := rb_13 ez_17 hp_d_r
  refine k_ic_ge 93 X dX11_signsOf_17 (by decide) (fun h_20 => ?_) (fun h_20 => ?_)
  · skip
    have j_21 : z_17.toInt ≤ u_12.toInt := iv_le h_20
    refine k_iload_n X dX11_signsOf_93 1 rfl ?_
    exact k_iret X hr dX11_signsOf_94 (Nat.le_of_ble_eq_true rfl) (Nat.le_of_ble_eq_true rfl) [0, 1, 2, 3, 4, 5, 6, 7, 8, 9, 10, 11] (by decide) rfl rfl ⟨d_begin2_1, d_blackAt2_2, d_change2_3, d_changeFrame2_4, d_from2_5, d_lostAt2_6, d_motor2_7, d_slips2_8, d_startFrame2_9, rfl⟩
  · skip
    have j_22 : u_12.toInt < z_17.toInt := iv_nle h_20
    have iv_23 : IV u_12 0 5 := iv_ltL (iv_nle h_20) hv_13 iv_19 (by decide)
    have iv_24 : IV z_17 1 6 := iv_ltR (iv_nle h_20) hv_13 iv_19 (by decide)
    refine k_sipush (v := 137) X dX11_signsOf_20 (by decide) ?_
    refine k_iconst (v := 3) X dX11_signsOf_23 (by decide) ?_
    refine k_iload_n X dX11_signsOf_24 0 rfl ?_
    refine k_imul X dX11_signsOf_25 ?_
    refine k_nm (fun z_25 ez_25 => ?_)
    have i_26 : z_25.toInt = 3 * u_12.toInt := in_mul ez_25 (by decide) (by decide) iv_23 (by decide) (by decide)
    have iv_27 : IV z_25 0 15 := iz4 i_26 iv_23 (by decide) (by decide) (by decide)
    refine k_iadd X dX11_signsOf_26 ?_
    refine k_nm (fun z_28 ez_28 => ?_)
    have i_29 : z_28.toInt = 137 + z_25.toInt := in_add ez_28 (show IV 137 137 137 from (by decide)) iv_27 (by decide) (by decide)
    have iv_30 : IV z_28 137 152 := iz2 i_29 iv_27 (by decide) (by decide)
    refine k_istore [(4, .int z_28), (3, .int u_12), (2, .int u_11), (0, .ref h0), (1, .int p0)] X dX11_signsOf_27 (by decide) rfl ?_
    refine k_iload_n X dX11_signsOf_29 2 rfl ?_
    refine k_aload_n X dX11_signsOf_30 3 rfl ?_
    refine k_get (ci := 11) X inlX11 rfl 29 (by decide) dX11_signsOf_31 mw182 0 rfl rfl ?_
    refine k_aload_n X dX11_signsOf_34 3 rfl ?_
    refine k_get (ci := 11) X inlX11 rfl 15 (by decide) dX11_signsOf_35 mw170 0 rfl rfl ?_
    refine k_iload X dX11_signsOf_38 0 rfl ?_
    refine k_iald X dX11_signsOf_40 1 rfl (iv_in iv_30 (by decide) (by decide)) ?_
    refine k_nm (fun z_31 ez_31 => ?_)
    have i_32 : z_28.toInt = 137 + 3 * u_12.toInt := by omega
    have iv_33 : IV z_31 0 7 := rb_137_3 ez_31 hp_d_r i_32 (iv_w iv_23 (by decide) (by decide))
    refine k_iald X dX11_signsOf_41 10 rfl (iv_in iv_33 (by decide) (by decide)) ?_
    refine k_nm (fun z_34 ez_34 => ?_)
    refine k_aload_n X dX11_signsOf_42 3 rfl ?_
    refine k_get (ci := 11) X inlX11 rfl 15 (by decide) dX11_signsOf_43 mw170 0 rfl rfl ?_
    refine k_iload X dX11_signsOf_46 0 rfl ?_
    refine k_iconst (v := 1) X dX11_signsOf_48 (by decide) ?_
    refine k_iadd X dX11_signsOf_49 ?_
    refine k_nm (fun z_35 ez_35 => ?_)
    have i_36 : z_35.toInt = z_28.toInt + 1 := in_add ez_35 iv_30 (show IV 1 1 1 from (by decide)) (by decide) (by decide)
    have iv_37 : IV z_35 138 153 := iz1 i_36 iv_30 (by decide) (by decide)
    refine k_iald X dX11_signsOf_50 1 rfl (iv_in iv_37 (by decide) (by decide)) ?_
    refine k_nm (fun z_38 ez_38 => ?_)
    refine k_ic_ne 84 X dX11_signsOf_51 (by decide) (fun h_39 => ?_) (fun h_39 => ?_)
    · skip
      refine k_iconst (v := 0) X dX11_signsOf_84 (by decide) ?_
      refine k_ior X dX11_signsOf_85 ?_
      refine k_nm (fun z_40 ez_40 => ?_)
      refine k_istore_n [(2, .int z_40), (4, .int z_28), (3, .int u_12), (0, .ref h0), (1, .int p0)] X dX11_signsOf_86 (by decide) rfl ?_
      obtain ⟨z_41, ez_41⟩ : ∃ y : Int32, u_12 + Int32.ofInt 1 = y := ⟨_, rfl⟩
      refine k_iinc z_41 [(3, .int z_41), (2, .int z_40), (4, .int z_28), (0, .ref h0), (1, .int p0)] 2 X dX11_signsOf_87 rfl ez_41 (by decide) rfl ?_
      have i_42 : z_41.toInt = u_12.toInt + 1 := in_inc ez_41 (by decide) iv_23 (by decide) (by decide)
      have iv_43 : IV z_41 1 6 := iz1 i_42 iv_23 (by decide) (by decide)
      refine k_goto 9 X dX11_signsOf_90 (by decide) ?_
      refine k_lv [(3, .int z_41), (2, .int z_40), (0, .ref h0), (1, .int p0)] [0, 1, 3, 4] rfl ?_
      exact ih_16 _ (by omega) z_40 z_41 rfl (iv_w iv_43 (by decide) (by decide))
    · skip
      refine k_aload_n X dX11_signsOf_54 3 rfl ?_
      refine k_get (ci := 11) X inlX11 rfl 28 (by decide) dX11_signsOf_55 mw181 0 rfl rfl ?_
      refine k_aload_n X dX11_signsOf_58 3 rfl ?_
      refine k_get (ci := 11) X inlX11 rfl 15 (by decide) dX11_signsOf_59 mw170 0 rfl rfl ?_
      refine k_iload X dX11_signsOf_62 0 rfl ?_
      refine k_iald X dX11_signsOf_64 1 rfl (iv_in iv_30 (by decide) (by decide)) ?_
      refine k_to z_31 ez_31.symm ?_
      refine k_iald X dX11_signsOf_65 9 rfl (iv_in iv_33 (by decide) (by decide)) ?_
      refine k_nm (fun z_44 ez_44 => ?_)
      refine k_aload_n X dX11_signsOf_66 3 rfl ?_
      refine k_get (ci := 11) X inlX11 rfl 15 (by decide) dX11_signsOf_67 mw170 0 rfl rfl ?_
      refine k_iload X dX11_signsOf_70 0 rfl ?_
      refine k_iconst (v := 2) X dX11_signsOf_72 (by decide) ?_
      refine k_iadd X dX11_signsOf_73 ?_
      refine k_nm (fun z_45 ez_45 => ?_)
      have i_46 : z_45.toInt = z_28.toInt + 2 := in_add ez_45 iv_30 (show IV 2 2 2 from (by decide)) (by decide) (by decide)
      have iv_47 : IV z_45 139 154 := iz1 i_46 iv_30 (by decide) (by decide)
      refine k_iald X dX11_signsOf_74 1 rfl (iv_in iv_47 (by decide) (by decide)) ?_
      refine k_nm (fun z_48 ez_48 => ?_)
      refine k_ic_ne 84 X dX11_signsOf_75 (by decide) (fun h_49 => ?_) (fun h_49 => ?_)
      · skip
        refine k_iconst (v := 0) X dX11_signsOf_84 (by decide) ?_
        refine k_ior X dX11_signsOf_85 ?_
        refine k_nm (fun z_50 ez_50 => ?_)
        refine k_istore_n [(2, .int z_50), (4, .int z_28), (3, .int u_12), (0, .ref h0), (1, .int p0)] X dX11_signsOf_86 (by decide) rfl ?_
        obtain ⟨z_51, ez_51⟩ : ∃ y : Int32, u_12 + Int32.ofInt 1 = y := ⟨_, rfl⟩
        refine k_iinc z_51 [(3, .int z_51), (2, .int z_50), (4, .int z_28), (0, .ref h0), (1, .int p0)] 2 X dX11_signsOf_87 rfl ez_51 (by decide) rfl ?_
        have i_52 : z_51.toInt = u_12.toInt + 1 := in_inc ez_51 (by decide) iv_23 (by decide) (by decide)
        have iv_53 : IV z_51 1 6 := iz1 i_52 iv_23 (by decide) (by decide)
        refine k_goto 9 X dX11_signsOf_90 (by decide) ?_
        refine k_lv [(3, .int z_51), (2, .int z_50), (0, .ref h0), (1, .int p0)] [0, 1, 3, 4] rfl ?_
        exact ih_16 _ (by omega) z_50 z_51 rfl (iv_w iv_53 (by decide) (by decide))
      · skip
        refine k_iconst (v := 1) X dX11_signsOf_78 (by decide) ?_
        refine k_iload_n X dX11_signsOf_79 1 rfl ?_
        refine k_ishl X dX11_signsOf_80 ?_
        refine k_nm (fun z_54 ez_54 => ?_)
        have iv_55 : IV z_54 1 256 := iv_shl ez_54 (iv_w iv_23 (by decide) (by decide))
        refine k_goto 85 X dX11_signsOf_81 (by decide) ?_
        refine k_ior X dX11_signsOf_85 ?_
        refine k_nm (fun z_56 ez_56 => ?_)
        refine k_istore_n [(2, .int z_56), (4, .int z_28), (3, .int u_12), (0, .ref h0), (1, .int p0)] X dX11_signsOf_86 (by decide) rfl ?_
        obtain ⟨z_57, ez_57⟩ : ∃ y : Int32, u_12 + Int32.ofInt 1 = y := ⟨_, rfl⟩
        refine k_iinc z_57 [(3, .int z_57), (2, .int z_56), (4, .int z_28), (0, .ref h0), (1, .int p0)] 2 X dX11_signsOf_87 rfl ez_57 (by decide) rfl ?_
        have i_58 : z_57.toInt = u_12.toInt + 1 := in_inc ez_57 (by decide) iv_23 (by decide) (by decide)
        have iv_59 : IV z_57 1 6 := iz1 i_58 iv_23 (by decide) (by decide)
        refine k_goto 9 X dX11_signsOf_90 (by decide) ?_
        refine k_lv [(3, .int z_57), (2, .int z_56), (0, .ref h0), (1, .int p0)] [0, 1, 3, 4] rfl ?_
        exact ih_16 _ (by omega) z_56 z_57 rfl (iv_w iv_59 (by decide) (by decide))

theorem dX11_signs_0 : decode cX11_signs 0 = .ok (.aload_n 0, 1) := dk_42 rfl
theorem dX11_signs_1 : decode cX11_signs 1 = .ok (.invokevirtual 200, 3) := dk_182 rfl rfl rfl rfl
theorem dX11_signs_4 : decode cX11_signs 4 = .ok (.aload_n 0, 1) := dk_42 rfl
theorem dX11_signs_5 : decode cX11_signs 5 = .ok (.iload_n 1, 1) := dk_27 rfl
theorem dX11_signs_6 : decode cX11_signs 6 = .ok (.invokevirtual 370, 3) := dk_182 rfl rfl rfl rfl
theorem dX11_signs_9 : decode cX11_signs 9 = .ok (.ifCond .eq 11, 3) := dk_153 rfl rfl rfl (by decide)
theorem dX11_signs_12 : decode cX11_signs 12 = .ok (.aload_n 0, 1) := dk_42 rfl
theorem dX11_signs_13 : decode cX11_signs 13 = .ok (.iload_n 1, 1) := dk_27 rfl
theorem dX11_signs_14 : decode cX11_signs 14 = .ok (.invokevirtual 422, 3) := dk_182 rfl rfl rfl rfl
theorem dX11_signs_17 : decode cX11_signs 17 = .ok (.goto 8, 3) := dk_167 rfl rfl rfl (by decide)
theorem dX11_signs_20 : decode cX11_signs 20 = .ok (.aload_n 0, 1) := dk_42 rfl
theorem dX11_signs_21 : decode cX11_signs 21 = .ok (.iconst 1, 1) := dk_4 rfl
theorem dX11_signs_22 : decode cX11_signs 22 = .ok (.invokevirtual 203, 3) := dk_182 rfl rfl rfl rfl
theorem dX11_signs_25 : decode cX11_signs 25 = .ok (.ireturn, 1) := dk_172 rfl
set_option maxHeartbeats 4000000 in
set_option maxRecDepth 100000 in
theorem m_signs (l : Launch) (g : Gx) (h0 : Nat) (p0 : Int32) (m_thrown : Int32) (a_tape : Nat) (m_taped : Int32) (m_size : Int32) (m_at : Int32) (m_end : Int32) (m_token : Int32) (m_whole : Int32) (m_nameSize : Int32) (m_fault : Int32) (m_place : Int32) (m_trouble : Int32) (a_letters : Nat) (m_failed : Int32) (m_hasHouse : Int32) (a_r : Nat) (a_fresh : Nat) (a_st : Nat) (a_undone : Nat) (a_kept : Nat) (m_undos : Int32) (m_images : Int32) (a_from : Nat) (a_begin : Nat) (a_motor : Nat) (a_change : Nat) (a_startFrame : Nat) (a_changeFrame : Nat) (a_lostAt : Nat) (a_blackAt : Nat) (a_slips : Nat) (a_leftArc : Nat) (a_died : Nat) (a_arcs : Nat) (m_bestSum : Int32) (m_nearest : Int32) (m_nearestTown : Int32) (a_there : Nat) (a_backAt : Nat) (a_sorted : Nat) (a_parts : Nat) (m_seed1 : Int32) (m_darkNow : Int32) (d_r : Nat → Int32) (d_st : Nat → Int32) (d_from : Nat → Int32) (d_begin : Nat → Int32) (d_motor : Nat → Int32) (d_change : Nat → Int32) (d_startFrame : Nat → Int32) (d_changeFrame : Nat → Int32) (d_lostAt : Nat → Int32) (d_blackAt : Nat → Int32) (d_slips : Nat → Int32) (hv_m_hasHouse : IV m_hasHouse 0 1) (hp_d_r : RInv d_r) : cI l g yX11_signs cX11_signs 2 (some .int) 6 134 0 0 [.ref h0, .int p0] [(cO11_i1r1i10r1i2r5i2r12i3r4i2 h0 m_thrown a_tape m_taped m_size m_at m_end m_token m_whole m_nameSize m_fault m_place m_trouble a_letters m_failed m_hasHouse a_r a_fresh a_st a_undone a_kept m_undos m_images a_from a_begin a_motor a_change a_startFrame a_changeFrame a_lostAt a_blackAt a_slips a_leftArc a_died a_arcs m_bestSum m_nearest m_nearestTown a_there a_backAt a_sorted a_parts m_seed1 m_darkNow), (cAI g a_r 311 d_r), (cAI g a_st 44 d_st), (cAI g a_from 8 d_from), (cAI g a_begin 8 d_begin), (cAI g a_motor 8 d_motor), (cAI g a_change 8 d_change), (cAI g a_startFrame 8 d_startFrame), (cAI g a_changeFrame 8 d_changeFrame), (cAI g a_lostAt 8 d_lostAt), (cAI g a_blackAt 8 d_blackAt), (cAI g a_slips 8 d_slips)] (fun r w => ∃ (d_begin2 : Nat → Int32) (d_blackAt2 : Nat → Int32) (d_change2 : Nat → Int32) (d_changeFrame2 : Nat → Int32) (d_from2 : Nat → Int32) (d_lostAt2 : Nat → Int32) (d_motor2 : Nat → Int32) (d_slips2 : Nat → Int32) (d_startFrame2 : Nat → Int32) (m_thrown2 : Int32) (m_trouble2 : Int32), w = [(cO11_i1r1i10r1i2r5i2r12i3r4i2 h0 m_thrown2 a_tape m_taped m_size m_at m_end m_token m_whole m_nameSize m_fault m_place m_trouble2 a_letters m_failed m_hasHouse a_r a_fresh a_st a_undone a_kept m_undos m_images a_from a_begin a_motor a_change a_startFrame a_changeFrame a_lostAt a_blackAt a_slips a_leftArc a_died a_arcs m_bestSum m_nearest m_nearestTown a_there a_backAt a_sorted a_parts m_seed1 m_darkNow), (cAI g a_r 311 d_r), (cAI g a_st 44 d_st), (cAI g a_from 8 d_from2), (cAI g a_begin 8 d_begin2), (cAI g a_motor 8 d_motor2), (cAI g a_change 8 d_change2), (cAI g a_startFrame 8 d_startFrame2), (cAI g a_changeFrame 8 d_changeFrame2), (cAI g a_lostAt 8 d_lostAt2), (cAI g a_blackAt 8 d_blackAt2), (cAI g a_slips 8 d_slips2)]) := by
  refine cI.of (by decide) (Nat.le_of_ble_eq_true rfl) ?_
  intro p e s m args below meth c A X hr hi
  refine k_lveq [(0, .ref h0), (1, .int p0)] rfl ?_
  refine k_aload_n X dX11_signs_0 0 rfl ?_
  refine k_callVV (n := 0) (As := []) (st := []) X [(cO11_i1r1i10r1i2r5i2r12i3r4i2 h0 m_thrown a_tape m_taped m_size m_at m_end m_token m_whole m_nameSize m_fault m_place m_trouble a_letters m_failed m_hasHouse a_r a_fresh a_st a_undone a_kept m_undos m_images a_from a_begin a_motor a_change a_startFrame a_changeFrame a_lostAt a_blackAt a_slips a_leftArc a_died a_arcs m_bestSum m_nearest m_nearestTown a_there a_backAt a_sorted a_parts m_seed1 m_darkNow)] [(cAI g a_r 311 d_r), (cAI g a_st 44 d_st), (cAI g a_from 8 d_from), (cAI g a_begin 8 d_begin), (cAI g a_motor 8 d_motor), (cAI g a_change 8 d_change), (cAI g a_startFrame 8 d_startFrame), (cAI g a_changeFrame 8 d_changeFrame), (cAI g a_lostAt 8 d_lostAt), (cAI g a_blackAt 8 d_blackAt), (cAI g a_slips 8 d_slips)] [0] [1, 2, 3, 4, 5, 6, 7, 8, 9, 10, 11] (m_good l g h0 m_thrown a_tape m_taped m_size m_at m_end m_token m_whole m_nameSize m_fault m_place m_trouble a_letters m_failed m_hasHouse a_r a_fresh a_st a_undone a_kept m_undos m_images a_from a_begin a_motor a_change a_startFrame a_changeFrame a_lostAt a_blackAt a_slips a_leftArc a_died a_arcs m_bestSum m_nearest m_nearestTown a_there a_backAt a_sorted a_parts m_seed1 m_darkNow) dX11_signs_1 mw477 mw478 mw479 mw5 mw480 rfl 11 rfl rfl 0 _ rfl yk_yX11_good_0 rfl (Nat.le_of_ble_eq_true rfl) (Nat.le_of_ble_eq_true rfl) (Nat.le_of_ble_eq_true rfl) (Nat.le_of_ble_eq_true rfl) (Nat.le_of_ble_eq_true rfl) rfl rfl (by decide +kernel) rfl (by decide +kernel) (by decide +kernel) ?_
  rintro w ⟨m_thrown2_1, m_trouble2_2, rfl⟩
  refine k_ws [(cAI g a_r 311 d_r), (cAI g a_st 44 d_st), (cAI g a_from 8 d_from), (cAI g a_begin 8 d_begin), (cAI g a_motor 8 d_motor), (cAI g a_change 8 d_change), (cAI g a_startFrame 8 d_startFrame), (cAI g a_changeFrame 8 d_changeFrame), (cAI g a_lostAt 8 d_lostAt), (cAI g a_blackAt 8 d_blackAt), (cAI g a_slips 8 d_slips), (cO11_i1r1i10r1i2r5i2r12i3r4i2 h0 m_thrown2_1 a_tape m_taped m_size m_at m_end m_token m_whole m_nameSize m_fault m_place m_trouble2_2 a_letters m_failed m_hasHouse a_r a_fresh a_st a_undone a_kept m_undos m_images a_from a_begin a_motor a_change a_startFrame a_changeFrame a_lostAt a_blackAt a_slips a_leftArc a_died a_arcs m_bestSum m_nearest m_nearestTown a_there a_backAt a_sorted a_parts m_seed1 m_darkNow)] rfl ?_
  refine k_aload_n X dX11_signs_4 0 rfl ?_
  refine k_iload_n X dX11_signs_5 1 rfl ?_
  refine k_callVI (n := 1) (As := [.int p0]) (st := []) X [(cO11_i1r1i10r1i2r5i2r12i3r4i2 h0 m_thrown2_1 a_tape m_taped m_size m_at m_end m_token m_whole m_nameSize m_fault m_place m_trouble2_2 a_letters m_failed m_hasHouse a_r a_fresh a_st a_undone a_kept m_undos m_images a_from a_begin a_motor a_change a_startFrame a_changeFrame a_lostAt a_blackAt a_slips a_leftArc a_died a_arcs m_bestSum m_nearest m_nearestTown a_there a_backAt a_sorted a_parts m_seed1 m_darkNow), (cAI g a_r 311 d_r)] [(cAI g a_st 44 d_st), (cAI g a_from 8 d_from), (cAI g a_begin 8 d_begin), (cAI g a_motor 8 d_motor), (cAI g a_change 8 d_change), (cAI g a_startFrame 8 d_startFrame), (cAI g a_changeFrame 8 d_changeFrame), (cAI g a_lostAt 8 d_lostAt), (cAI g a_blackAt 8 d_blackAt), (cAI g a_slips 8 d_slips)] [11, 0] [1, 2, 3, 4, 5, 6, 7, 8, 9, 10] (m_isMan l g h0 p0 m_thrown2_1 a_tape m_taped m_size m_at m_end m_token m_whole m_nameSize m_fault m_place m_trouble2_2 a_letters m_failed m_hasHouse a_r a_fresh a_st a_undone a_kept m_undos m_images a_from a_begin a_motor a_change a_startFrame a_changeFrame a_lostAt a_blackAt a_slips a_leftArc a_died a_arcs m_bestSum m_nearest m_nearestTown a_there a_backAt a_sorted a_parts m_seed1 m_darkNow d_r (iv_w hv_m_hasHouse (by decide) (by decide)) hp_d_r) dX11_signs_6 mw811 mw812 mw813 mw5 mw814 rfl 11 rfl rfl 0 _ rfl yk_yX11_isMan_1 rfl (Nat.le_of_ble_eq_true rfl) (Nat.le_of_ble_eq_true rfl) (Nat.le_of_ble_eq_true rfl) (Nat.le_of_ble_eq_true rfl) (Nat.le_of_ble_eq_true rfl) rfl rfl (by decide +kernel) rfl (by decide +kernel) (by decide +kernel) ?_
  rintro r_4 w ⟨iv_5, hk_6, rfl⟩
  refine k_ws [(cAI g a_st 44 d_st), (cAI g a_from 8 d_from), (cAI g a_begin 8 d_begin), (cAI g a_motor 8 d_motor), (cAI g a_change 8 d_change), (cAI g a_startFrame 8 d_startFrame), (cAI g a_changeFrame 8 d_changeFrame), (cAI g a_lostAt 8 d_lostAt), (cAI g a_blackAt 8 d_blackAt), (cAI g a_slips 8 d_slips), (cO11_i1r1i10r1i2r5i2r12i3r4i2 h0 m_thrown2_1 a_tape m_taped m_size m_at m_end m_token m_whole m_nameSize m_fault m_place m_trouble2_2 a_letters m_failed m_hasHouse a_r a_fresh a_st a_undone a_kept m_undos m_images a_from a_begin a_motor a_change a_startFrame a_changeFrame a_lostAt a_blackAt a_slips a_leftArc a_died a_arcs m_bestSum m_nearest m_nearestTown a_there a_backAt a_sorted a_parts m_seed1 m_darkNow), (cAI g a_r 311 d_r)] rfl ?_
  refine k_if_eq 20 X dX11_signs_9 (by decide) (fun h_7 => ?_) (fun h_7 => ?_)
  · skip
    have iv_8 : IV r_4 0 0 := iv_meet iv_5 (iv_e h_7 (show IV 0 0 0 from (by decide))) (by decide) (by decide)
    refine k_aload_n X dX11_signs_20 0 rfl ?_
    refine k_iconst (v := 1) X dX11_signs_21 (by decide) ?_
    refine k_callVI (n := 1) (As := [.int 1]) (st := []) X [(cO11_i1r1i10r1i2r5i2r12i3r4i2 h0 m_thrown2_1 a_tape m_taped m_size m_at m_end m_token m_whole m_nameSize m_fault m_place m_trouble2_2 a_letters m_failed m_hasHouse a_r a_fresh a_st a_undone a_kept m_undos m_images a_from a_begin a_motor a_change a_startFrame a_changeFrame a_lostAt a_blackAt a_slips a_leftArc a_died a_arcs m_bestSum m_nearest m_nearestTown a_there a_backAt a_sorted a_parts m_seed1 m_darkNow)] [(cAI g a_st 44 d_st), (cAI g a_from 8 d_from), (cAI g a_begin 8 d_begin), (cAI g a_motor 8 d_motor), (cAI g a_change 8 d_change), (cAI g a_startFrame 8 d_startFrame), (cAI g a_changeFrame 8 d_changeFrame), (cAI g a_lostAt 8 d_lostAt), (cAI g a_blackAt 8 d_blackAt), (cAI g a_slips 8 d_slips), (cAI g a_r 311 d_r)] [10] [0, 1, 2, 3, 4, 5, 6, 7, 8, 9, 11] (m_no l g h0 1 m_thrown2_1 a_tape m_taped m_size m_at m_end m_token m_whole m_nameSize m_fault m_place m_trouble2_2 a_letters m_failed m_hasHouse a_r a_fresh a_st a_undone a_kept m_undos m_images a_from a_begin a_motor a_change a_startFrame a_changeFrame a_lostAt a_blackAt a_slips a_leftArc a_died a_arcs m_bestSum m_nearest m_nearestTown a_there a_backAt a_sorted a_parts m_seed1 m_darkNow) dX11_signs_22 mw485 mw486 mw487 mw5 mw488 rfl 11 rfl rfl 0 _ rfl yk_yX11_no_1 rfl (Nat.le_of_ble_eq_true rfl) (Nat.le_of_ble_eq_true rfl) (Nat.le_of_ble_eq_true rfl) (Nat.le_of_ble_eq_true rfl) (Nat.le_of_ble_eq_true rfl) rfl rfl (by decide +kernel) rfl (by decide +kernel) (by decide +kernel) ?_
    rintro r_10 w ⟨m_trouble2_9, iv_11, rfl⟩
    refine k_ws [(cAI g a_st 44 d_st), (cAI g a_from 8 d_from), (cAI g a_begin 8 d_begin), (cAI g a_motor 8 d_motor), (cAI g a_change 8 d_change), (cAI g a_startFrame 8 d_startFrame), (cAI g a_changeFrame 8 d_changeFrame), (cAI g a_lostAt 8 d_lostAt), (cAI g a_blackAt 8 d_blackAt), (cAI g a_slips 8 d_slips), (cAI g a_r 311 d_r), (cO11_i1r1i10r1i2r5i2r12i3r4i2 h0 m_thrown2_1 a_tape m_taped m_size m_at m_end m_token m_whole m_nameSize m_fault m_place m_trouble2_9 a_letters m_failed m_hasHouse a_r a_fresh a_st a_undone a_kept m_undos m_images a_from a_begin a_motor a_change a_startFrame a_changeFrame a_lostAt a_blackAt a_slips a_leftArc a_died a_arcs m_bestSum m_nearest m_nearestTown a_there a_backAt a_sorted a_parts m_seed1 m_darkNow)] rfl ?_
    exact k_iret X hr dX11_signs_25 (Nat.le_of_ble_eq_true rfl) (Nat.le_of_ble_eq_true rfl) [11, 10, 0, 1, 2, 3, 4, 5, 6, 7, 8, 9] (by decide) rfl rfl ⟨d_begin, d_blackAt, d_change, d_changeFrame, d_from, d_lostAt, d_motor, d_slips, d_startFrame, m_thrown2_1, m_trouble2_9, rfl⟩
  · skip
    have hc_12 := hk_6.resolve_left h_7
    have iv_13 : IV p0 0 3 := iv_meet (iv_any p0) hc_12 (by decide) (by decide)
    have iv_14 : IV r_4 1 1 := iv_neL h_7 iv_5 (show IV 0 0 0 from (by decide)) (by decide)
    refine k_aload_n X dX11_signs_12 0 rfl ?_
    refine k_iload_n X dX11_signs_13 1 rfl ?_
    refine k_callVI (n := 1) (As := [.int p0]) (st := []) X [(cO11_i1r1i10r1i2r5i2r12i3r4i2 h0 m_thrown2_1 a_tape m_taped m_size m_at m_end m_token m_whole m_nameSize m_fault m_place m_trouble2_2 a_letters m_failed m_hasHouse a_r a_fresh a_st a_undone a_kept m_undos m_images a_from a_begin a_motor a_change a_startFrame a_changeFrame a_lostAt a_blackAt a_slips a_leftArc a_died a_arcs m_bestSum m_nearest m_nearestTown a_there a_backAt a_sorted a_parts m_seed1 m_darkNow), (cAI g a_r 311 d_r), (cAI g a_st 44 d_st), (cAI g a_from 8 d_from), (cAI g a_begin 8 d_begin), (cAI g a_motor 8 d_motor), (cAI g a_change 8 d_change), (cAI g a_startFrame 8 d_startFrame), (cAI g a_changeFrame 8 d_changeFrame), (cAI g a_lostAt 8 d_lostAt), (cAI g a_blackAt 8 d_blackAt), (cAI g a_slips 8 d_slips)] [] [10, 11, 0, 1, 2, 3, 4, 5, 6, 7, 8, 9] [] (m_signsOf l g h0 p0 m_thrown2_1 a_tape m_taped m_size m_at m_end m_token m_whole m_nameSize m_fault m_place m_trouble2_2 a_letters m_failed m_hasHouse a_r a_fresh a_st a_undone a_kept m_undos m_images a_from a_begin a_motor a_change a_startFrame a_changeFrame a_lostAt a_blackAt a_slips a_leftArc a_died a_arcs m_bestSum m_nearest m_nearestTown a_there a_backAt a_sorted a_parts m_seed1 m_darkNow d_r d_st d_from d_begin d_motor d_change d_startFrame d_changeFrame d_lostAt d_blackAt d_slips (iv_w iv_13 (by decide) (by decide)) hp_d_r) dX11_signs_14 mw962 mw963 mw964 mw5 mw965 rfl 11 rfl rfl 0 _ rfl yk_yX11_signsOf_1 rfl (Nat.le_of_ble_eq_true rfl) (Nat.le_of_ble_eq_true rfl) (Nat.le_of_ble_eq_true rfl) (Nat.le_of_ble_eq_true rfl) (Nat.le_of_ble_eq_true rfl) rfl rfl (by decide +kernel) rfl (by decide +kernel) (by decide +kernel) ?_
    rintro r_24 w ⟨d_begin2_15, d_blackAt2_16, d_change2_17, d_changeFrame2_18, d_from2_19, d_lostAt2_20, d_motor2_21, d_slips2_22, d_startFrame2_23, rfl⟩
    refine k_ws [(cO11_i1r1i10r1i2r5i2r12i3r4i2 h0 m_thrown2_1 a_tape m_taped m_size m_at m_end m_token m_whole m_nameSize m_fault m_place m_trouble2_2 a_letters m_failed m_hasHouse a_r a_fresh a_st a_undone a_kept m_undos m_images a_from a_begin a_motor a_change a_startFrame a_changeFrame a_lostAt a_blackAt a_slips a_leftArc a_died a_arcs m_bestSum m_nearest m_nearestTown a_there a_backAt a_sorted a_parts m_seed1 m_darkNow), (cAI g a_r 311 d_r), (cAI g a_st 44 d_st), (cAI g a_from 8 d_from2_19), (cAI g a_begin 8 d_begin2_15), (cAI g a_motor 8 d_motor2_21), (cAI g a_change 8 d_change2_17), (cAI g a_startFrame 8 d_startFrame2_23), (cAI g a_changeFrame 8 d_changeFrame2_18), (cAI g a_lostAt 8 d_lostAt2_20), (cAI g a_blackAt 8 d_blackAt2_16), (cAI g a_slips 8 d_slips2_22)] rfl ?_
    refine k_goto 25 X dX11_signs_17 (by decide) ?_
    exact k_iret X hr dX11_signs_25 (Nat.le_of_ble_eq_true rfl) (Nat.le_of_ble_eq_true rfl) [0, 1, 2, 3, 4, 5, 6, 7, 8, 9, 10, 11] (by decide) rfl rfl ⟨d_begin2_15, d_blackAt2_16, d_change2_17, d_changeFrame2_18, d_from2_19, d_lostAt2_20, d_motor2_21, d_slips2_22, d_startFrame2_23, m_thrown2_1, m_trouble2_2, rfl⟩

theorem dX11_fits_0 : decode cX11_fits 0 = .ok (.aload_n 0, 1) := dk_42 rfl
theorem dX11_fits_1 : decode cX11_fits 1 = .ok (.invokevirtual 200, 3) := dk_182 rfl rfl rfl rfl
theorem dX11_fits_4 : decode cX11_fits 4 = .ok (.aload_n 0, 1) := dk_42 rfl
theorem dX11_fits_5 : decode cX11_fits 5 = .ok (.getfield 213, 3) := dk_180 rfl rfl rfl rfl
theorem dX11_fits_8 : decode cX11_fits 8 = .ok (.ifCond .ne 9, 3) := dk_154 rfl rfl rfl (by decide)
theorem dX11_fits_11 : decode cX11_fits 11 = .ok (.aload_n 0, 1) := dk_42 rfl
theorem dX11_fits_12 : decode cX11_fits 12 = .ok (.iconst 1, 1) := dk_4 rfl
theorem dX11_fits_13 : decode cX11_fits 13 = .ok (.invokevirtual 203, 3) := dk_182 rfl rfl rfl rfl
theorem dX11_fits_16 : decode cX11_fits 16 = .ok (.ireturn, 1) := dk_172 rfl
theorem dX11_fits_17 : decode cX11_fits 17 = .ok (.iconst 0, 1) := dk_3 rfl
theorem dX11_fits_18 : decode cX11_fits 18 = .ok (.istore_n 1, 1) := dk_60 rfl
theorem dX11_fits_19 : decode cX11_fits 19 = .ok (.iconst 0, 1) := dk_3 rfl
theorem dX11_fits_20 : decode cX11_fits 20 = .ok (.istore_n 2, 1) := dk_61 rfl
theorem dX11_fits_21 : decode cX11_fits 21 = .ok (.iload_n 2, 1) := dk_28 rfl
theorem dX11_fits_22 : decode cX11_fits 22 = .ok (.aload_n 0, 1) := dk_42 rfl
theorem dX11_fits_23 : decode cX11_fits 23 = .ok (.getfield 20, 3) := dk_180 rfl rfl rfl rfl
theorem dX11_fits_26 : decode cX11_fits 26 = .ok (.bipush 11, 2) := dk_16 rfl rfl (by decide)
theorem dX11_fits_28 : decode cX11_fits 28 = .ok (.iaload, 1) := dk_46 rfl
theorem dX11_fits_29 : decode cX11_fits 29 = .ok (.if_icmp .ge 38, 3) := dk_162 rfl rfl rfl (by decide)
theorem dX11_fits_32 : decode cX11_fits 32 = .ok (.iload_n 1, 1) := dk_27 rfl
theorem dX11_fits_33 : decode cX11_fits 33 = .ok (.aload_n 0, 1) := dk_42 rfl
theorem dX11_fits_34 : decode cX11_fits 34 = .ok (.iload_n 2, 1) := dk_28 rfl
theorem dX11_fits_35 : decode cX11_fits 35 = .ok (.invokevirtual 422, 3) := dk_182 rfl rfl rfl rfl
theorem dX11_fits_38 : decode cX11_fits 38 = .ok (.iconst 1, 1) := dk_4 rfl
theorem dX11_fits_39 : decode cX11_fits 39 = .ok (.aload_n 0, 1) := dk_42 rfl
theorem dX11_fits_40 : decode cX11_fits 40 = .ok (.getfield 20, 3) := dk_180 rfl rfl rfl rfl
theorem dX11_fits_43 : decode cX11_fits 43 = .ok (.bipush 13, 2) := dk_16 rfl rfl (by decide)
theorem dX11_fits_45 : decode cX11_fits 45 = .ok (.iaload, 1) := dk_46 rfl
theorem dX11_fits_46 : decode cX11_fits 46 = .ok (.ishl, 1) := dk_120 rfl
theorem dX11_fits_47 : decode cX11_fits 47 = .ok (.iconst 1, 1) := dk_4 rfl
theorem dX11_fits_48 : decode cX11_fits 48 = .ok (.isub, 1) := dk_100 rfl
theorem dX11_fits_49 : decode cX11_fits 49 = .ok (.if_icmp .ne 9, 3) := dk_160 rfl rfl rfl (by decide)
theorem dX11_fits_52 : decode cX11_fits 52 = .ok (.iconst 1, 1) := dk_4 rfl
theorem dX11_fits_53 : decode cX11_fits 53 = .ok (.iload_n 2, 1) := dk_28 rfl
theorem dX11_fits_54 : decode cX11_fits 54 = .ok (.ishl, 1) := dk_120 rfl
theorem dX11_fits_55 : decode cX11_fits 55 = .ok (.goto 4, 3) := dk_167 rfl rfl rfl (by decide)
theorem dX11_fits_58 : decode cX11_fits 58 = .ok (.iconst 0, 1) := dk_3 rfl
theorem dX11_fits_59 : decode cX11_fits 59 = .ok (.ior, 1) := dk_128 rfl
theorem dX11_fits_60 : decode cX11_fits 60 = .ok (.istore_n 1, 1) := dk_60 rfl
theorem dX11_fits_61 : decode cX11_fits 61 = .ok (.iinc 2 1, 3) := dk_132 rfl rfl rfl rfl (by decide)
theorem dX11_fits_64 : decode cX11_fits 64 = .ok (.goto (-43), 3) := dk_167 rfl rfl rfl (by decide)
theorem dX11_fits_67 : decode cX11_fits 67 = .ok (.iload_n 1, 1) := dk_27 rfl
theorem dX11_fits_68 : decode cX11_fits 68 = .ok (.ireturn, 1) := dk_172 rfl
set_option maxHeartbeats 4000000 in
set_option maxRecDepth 100000 in
theorem m_fits (l : Launch) (g : Gx) (h0 : Nat) (m_thrown : Int32) (a_tape : Nat) (m_taped : Int32) (m_size : Int32) (m_at : Int32) (m_end : Int32) (m_token : Int32) (m_whole : Int32) (m_nameSize : Int32) (m_fault : Int32) (m_place : Int32) (m_trouble : Int32) (a_letters : Nat) (m_failed : Int32) (m_hasHouse : Int32) (a_r : Nat) (a_fresh : Nat) (a_st : Nat) (a_undone : Nat) (a_kept : Nat) (m_undos : Int32) (m_images : Int32) (a_from : Nat) (a_begin : Nat) (a_motor : Nat) (a_change : Nat) (a_startFrame : Nat) (a_changeFrame : Nat) (a_lostAt : Nat) (a_blackAt : Nat) (a_slips : Nat) (a_leftArc : Nat) (a_died : Nat) (a_arcs : Nat) (m_bestSum : Int32) (m_nearest : Int32) (m_nearestTown : Int32) (a_there : Nat) (a_backAt : Nat) (a_sorted : Nat) (a_parts : Nat) (m_seed1 : Int32) (m_darkNow : Int32) (d_r : Nat → Int32) (d_st : Nat → Int32) (d_from : Nat → Int32) (d_begin : Nat → Int32) (d_motor : Nat → Int32) (d_change : Nat → Int32) (d_startFrame : Nat → Int32) (d_changeFrame : Nat → Int32) (d_lostAt : Nat → Int32) (d_blackAt : Nat → Int32) (d_slips : Nat → Int32) (hv_m_hasHouse : IV m_hasHouse 0 1) (hp_d_r : RInv d_r) : cI l g yX11_fits cX11_fits 3 (some .int) 6 134 0 0 [.ref h0] [(cO11_i1r1i10r1i2r5i2r12i3r4i2 h0 m_thrown a_tape m_taped m_size m_at m_end m_token m_whole m_nameSize m_fault m_place m_trouble a_letters m_failed m_hasHouse a_r a_fresh a_st a_undone a_kept m_undos m_images a_from a_begin a_motor a_change a_startFrame a_changeFrame a_lostAt a_blackAt a_slips a_leftArc a_died a_arcs m_bestSum m_nearest m_nearestTown a_there a_backAt a_sorted a_parts m_seed1 m_darkNow), (cAI g a_r 311 d_r), (cAI g a_st 44 d_st), (cAI g a_from 8 d_from), (cAI g a_begin 8 d_begin), (cAI g a_motor 8 d_motor), (cAI g a_change 8 d_change), (cAI g a_startFrame 8 d_startFrame), (cAI g a_changeFrame 8 d_changeFrame), (cAI g a_lostAt 8 d_lostAt), (cAI g a_blackAt 8 d_blackAt), (cAI g a_slips 8 d_slips)] (fun r w => ∃ (d_begin2 : Nat → Int32) (d_blackAt2 : Nat → Int32) (d_change2 : Nat → Int32) (d_changeFrame2 : Nat → Int32) (d_from2 : Nat → Int32) (d_lostAt2 : Nat → Int32) (d_motor2 : Nat → Int32) (d_slips2 : Nat → Int32) (d_startFrame2 : Nat → Int32) (m_thrown2 : Int32) (m_trouble2 : Int32), w = [(cO11_i1r1i10r1i2r5i2r12i3r4i2 h0 m_thrown2 a_tape m_taped m_size m_at m_end m_token m_whole m_nameSize m_fault m_place m_trouble2 a_letters m_failed m_hasHouse a_r a_fresh a_st a_undone a_kept m_undos m_images a_from a_begin a_motor a_change a_startFrame a_changeFrame a_lostAt a_blackAt a_slips a_leftArc a_died a_arcs m_bestSum m_nearest m_nearestTown a_there a_backAt a_sorted a_parts m_seed1 m_darkNow), (cAI g a_r 311 d_r), (cAI g a_st 44 d_st), (cAI g a_from 8 d_from2), (cAI g a_begin 8 d_begin2), (cAI g a_motor 8 d_motor2), (cAI g a_change 8 d_change2), (cAI g a_startFrame 8 d_startFrame2), (cAI g a_changeFrame 8 d_changeFrame2), (cAI g a_lostAt 8 d_lostAt2), (cAI g a_blackAt 8 d_blackAt2), (cAI g a_slips 8 d_slips2)]) := by
  refine cI.of (by decide) (Nat.le_of_ble_eq_true rfl) ?_
  intro p e s m args below meth c A X hr hi
  refine k_lveq [(0, .ref h0)] rfl ?_
  refine k_aload_n X dX11_fits_0 0 rfl ?_
  refine k_callVV (n := 0) (As := []) (st := []) X [(cO11_i1r1i10r1i2r5i2r12i3r4i2 h0 m_thrown a_tape m_taped m_size m_at m_end m_token m_whole m_nameSize m_fault m_place m_trouble a_letters m_failed m_hasHouse a_r a_fresh a_st a_undone a_kept m_undos m_images a_from a_begin a_motor a_change a_startFrame a_changeFrame a_lostAt a_blackAt a_slips a_leftArc a_died a_arcs m_bestSum m_nearest m_nearestTown a_there a_backAt a_sorted a_parts m_seed1 m_darkNow)] [(cAI g a_r 311 d_r), (cAI g a_st 44 d_st), (cAI g a_from 8 d_from), (cAI g a_begin 8 d_begin), (cAI g a_motor 8 d_motor), (cAI g a_change 8 d_change), (cAI g a_startFrame 8 d_startFrame), (cAI g a_changeFrame 8 d_changeFrame), (cAI g a_lostAt 8 d_lostAt), (cAI g a_blackAt 8 d_blackAt), (cAI g a_slips 8 d_slips)] [0] [1, 2, 3, 4, 5, 6, 7, 8, 9, 10, 11] (m_good l g h0 m_thrown a_tape m_taped m_size m_at m_end m_token m_whole m_nameSize m_fault m_place m_trouble a_letters m_failed m_hasHouse a_r a_fresh a_st a_undone a_kept m_undos m_images a_from a_begin a_motor a_change a_startFrame a_changeFrame a_lostAt a_blackAt a_slips a_leftArc a_died a_arcs m_bestSum m_nearest m_nearestTown a_there a_backAt a_sorted a_parts m_seed1 m_darkNow) dX11_fits_1 mw477 mw478 mw479 mw5 mw480 rfl 11 rfl rfl 0 _ rfl yk_yX11_good_0 rfl (Nat.le_of_ble_eq_true rfl) (Nat.le_of_ble_eq_true rfl) (Nat.le_of_ble_eq_true rfl) (Nat.le_of_ble_eq_true rfl) (Nat.le_of_ble_eq_true rfl) rfl rfl (by decide +kernel) rfl (by decide +kernel) (by decide +kernel) ?_
  rintro w ⟨m_thrown2_1, m_trouble2_2, rfl⟩
  refine k_ws [(cAI g a_r 311 d_r), (cAI g a_st 44 d_st), (cAI g a_from 8 d_from), (cAI g a_begin 8 d_begin), (cAI g a_motor 8 d_motor), (cAI g a_change 8 d_change), (cAI g a_startFrame 8 d_startFrame), (cAI g a_changeFrame 8 d_changeFrame), (cAI g a_lostAt 8 d_lostAt), (cAI g a_blackAt 8 d_blackAt), (cAI g a_slips 8 d_slips), (cO11_i1r1i10r1i2r5i2r12i3r4i2 h0 m_thrown2_1 a_tape m_taped m_size m_at m_end m_token m_whole m_nameSize m_fault m_place m_trouble2_2 a_letters m_failed m_hasHouse a_r a_fresh a_st a_undone a_kept m_undos m_images a_from a_begin a_motor a_change a_startFrame a_changeFrame a_lostAt a_blackAt a_slips a_leftArc a_died a_arcs m_bestSum m_nearest m_nearestTown a_there a_backAt a_sorted a_parts m_seed1 m_darkNow)] rfl ?_
  refine k_aload_n X dX11_fits_4 0 rfl ?_
  refine k_get (ci := 11) X inlX11 rfl 14 (by decide) dX11_fits_5 mw474 11 rfl rfl ?_
  refine k_if_ne 17 X dX11_fits_8 (by decide) (fun h_4 => ?_) (fun h_4 => ?_)
  · skip
    have iv_5 : IV m_hasHouse 1 1 := iv_neL h_4 hv_m_hasHouse (show IV 0 0 0 from (by decide)) (by decide)
    refine k_iconst (v := 0) X dX11_fits_17 (by decide) ?_
    refine k_istore_n [(1, .int 0), (0, .ref h0)] X dX11_fits_18 (by decide) rfl ?_
    refine k_iconst (v := 0) X dX11_fits_19 (by decide) ?_
    refine k_istore_n [(2, .int 0), (1, .int 0), (0, .ref h0)] X dX11_fits_20 (by decide) rfl ?_
    refine (fun hL : ∀ (nn_18 : Nat) (uf_6 : Nat → Int32) (uf_7 : Nat → Int32) (uf_8 : Nat → Int32) (uf_9 : Nat → Int32) (uf_10 : Nat → Int32) (uf_11 : Nat → Int32) (uf_12 : Nat → Int32) (uf_13 : Nat → Int32) (uf_14 : Nat → Int32) (u_15 : Int32) (u_16 : Int32), (2147483647 - u_16.toInt).toNat = nn_18 → (IV u_16 0 8) → Wk p l e _ s m args below meth c _ A g _ _ _ [(cAI g a_r 311 d_r), (cAI g a_st 44 d_st), (cAI g a_from 8 uf_10), (cAI g a_begin 8 uf_6), (cAI g a_motor 8 uf_12), (cAI g a_change 8 uf_8), (cAI g a_startFrame 8 uf_14), (cAI g a_changeFrame 8 uf_9), (cAI g a_lostAt 8 uf_11), (cAI g a_blackAt 8 uf_7), (cAI g a_slips 8 uf_13), (cO11_i1r1i10r1i2r5i2r12i3r4i2 h0 m_thrown2_1 a_tape m_taped m_size m_at m_end m_token m_whole m_nameSize m_fault m_place m_trouble2_2 a_letters m_failed m_hasHouse a_r a_fresh a_st a_undone a_kept m_undos m_images a_from a_begin a_motor a_change a_startFrame a_changeFrame a_lostAt a_blackAt a_slips a_leftArc a_died a_arcs m_bestSum m_nearest m_nearestTown a_there a_backAt a_sorted a_parts m_seed1 m_darkNow)] [(2, .int u_16), (1, .int u_15), (0, .ref h0)] 21 [] => hL _ d_begin d_blackAt d_change d_changeFrame d_from d_lostAt d_motor d_slips d_startFrame 0 0 rfl (iv_w (show IV 0 0 0 from (by decide)) (by decide) (by decide))) ?_
    refine fun nn_18 => Nat.strongRecOn nn_18 (fun nn_18 ih_20 => ?_)
    intro uf_6 uf_7 uf_8 uf_9 uf_10 uf_11 uf_12 uf_13 uf_14 u_15 u_16 hm_19 hv_17
    refine k_iload_n X dX11_fits_21 0 rfl ?_
    refine k_aload_n X dX11_fits_22 2 rfl ?_
    refine k_get (ci := 11) X inlX11 rfl 15 (by decide) dX11_fits_23 mw170 11 rfl rfl ?_
    refine k_bipush (v := 11) X dX11_fits_26 (by decide) ?_
    refine k_iald X dX11_fits_28 0 rfl (by unfold vp_in; decide) ?_
    refine k_nm (fun z_21 ez_21 => ?_)
    have i_22 : z_21.toInt = (d_r 11).toInt := by rw [ez_21]; rfl
    have iv_23 : IV z_21 0 4 := rb_11 ez_21 hp_d_r
    refine k_ic_ge 67 X dX11_fits_29 (by decide) (fun h_24 => ?_) (fun h_24 => ?_)
    · skip
      have j_25 : z_21.toInt ≤ u_16.toInt := iv_le h_24
      refine k_iload_n X dX11_fits_67 1 rfl ?_
      exact k_iret X hr dX11_fits_68 (Nat.le_of_ble_eq_true rfl) (Nat.le_of_ble_eq_true rfl) [11, 0, 1, 2, 3, 4, 5, 6, 7, 8, 9, 10] (by decide) rfl rfl ⟨uf_6, uf_7, uf_8, uf_9, uf_10, uf_11, uf_12, uf_13, uf_14, m_thrown2_1, m_trouble2_2, rfl⟩
    · skip
      have j_26 : u_16.toInt < z_21.toInt := iv_nle h_24
      have iv_27 : IV u_16 0 3 := iv_ltL (iv_nle h_24) hv_17 iv_23 (by decide)
      have iv_28 : IV z_21 1 4 := iv_ltR (iv_nle h_24) hv_17 iv_23 (by decide)
      refine k_iload_n X dX11_fits_32 1 rfl ?_
      refine k_aload_n X dX11_fits_33 2 rfl ?_
      refine k_iload_n X dX11_fits_34 0 rfl ?_
      refine k_callVI (n := 1) (As := [.int u_16]) (st := [.int u_15]) X [(cO11_i1r1i10r1i2r5i2r12i3r4i2 h0 m_thrown2_1 a_tape m_taped m_size m_at m_end m_token m_whole m_nameSize m_fault m_place m_trouble2_2 a_letters m_failed m_hasHouse a_r a_fresh a_st a_undone a_kept m_undos m_images a_from a_begin a_motor a_change a_startFrame a_changeFrame a_lostAt a_blackAt a_slips a_leftArc a_died a_arcs m_bestSum m_nearest m_nearestTown a_there a_backAt a_sorted a_parts m_seed1 m_darkNow), (cAI g a_r 311 d_r), (cAI g a_st 44 d_st), (cAI g a_from 8 uf_10), (cAI g a_begin 8 uf_6), (cAI g a_motor 8 uf_12), (cAI g a_change 8 uf_8), (cAI g a_startFrame 8 uf_14), (cAI g a_changeFrame 8 uf_9), (cAI g a_lostAt 8 uf_11), (cAI g a_blackAt 8 uf_7), (cAI g a_slips 8 uf_13)] [] [11, 0, 1, 2, 3, 4, 5, 6, 7, 8, 9, 10] [] (m_signsOf l g h0 u_16 m_thrown2_1 a_tape m_taped m_size m_at m_end m_token m_whole m_nameSize m_fault m_place m_trouble2_2 a_letters m_failed m_hasHouse a_r a_fresh a_st a_undone a_kept m_undos m_images a_from a_begin a_motor a_change a_startFrame a_changeFrame a_lostAt a_blackAt a_slips a_leftArc a_died a_arcs m_bestSum m_nearest m_nearestTown a_there a_backAt a_sorted a_parts m_seed1 m_darkNow d_r d_st uf_10 uf_6 uf_12 uf_8 uf_14 uf_9 uf_11 uf_7 uf_13 (iv_w iv_27 (by decide) (by decide)) hp_d_r) dX11_fits_35 mw962 mw963 mw964 mw5 mw965 rfl 11 rfl rfl 0 _ rfl yk_yX11_signsOf_1 rfl (Nat.le_of_ble_eq_true rfl) (Nat.le_of_ble_eq_true rfl) (Nat.le_of_ble_eq_true rfl) (Nat.le_of_ble_eq_true rfl) (Nat.le_of_ble_eq_true rfl) rfl rfl (by decide +kernel) rfl (by decide +kernel) (by decide +kernel) ?_
      rintro r_38 w ⟨d_begin2_29, d_blackAt2_30, d_change2_31, d_changeFrame2_32, d_from2_33, d_lostAt2_34, d_motor2_35, d_slips2_36, d_startFrame2_37, rfl⟩
      refine k_ws [(cO11_i1r1i10r1i2r5i2r12i3r4i2 h0 m_thrown2_1 a_tape m_taped m_size m_at m_end m_token m_whole m_nameSize m_fault m_place m_trouble2_2 a_letters m_failed m_hasHouse a_r a_fresh a_st a_undone a_kept m_undos m_images a_from a_begin a_motor a_change a_startFrame a_changeFrame a_lostAt a_blackAt a_slips a_leftArc a_died a_arcs m_bestSum m_nearest m_nearestTown a_there a_backAt a_sorted a_parts m_seed1 m_darkNow), (cAI g a_r 311 d_r), (cAI g a_st 44 d_st), (cAI g a_from 8 d_from2_33), (cAI g a_begin 8 d_begin2_29), (cAI g a_motor 8 d_motor2_35), (cAI g a_change 8 d_change2_31), (cAI g a_startFrame 8 d_startFrame2_37), (cAI g a_changeFrame 8 d_changeFrame2_32), (cAI g a_lostAt 8 d_lostAt2_34), (cAI g a_blackAt 8 d_blackAt2_30), (cAI g a_slips 8 d_slips2_36)] rfl ?_
      refine k_iconst (v := 1) X dX11_fits_38 (by decide) ?_
      refine k_aload_n X dX11_fits_39 2 rfl ?_
      refine k_get (ci := 11) X inlX11 rfl 15 (by decide) dX11_fits_40 mw170 0 rfl rfl ?_
      refine k_bipush (v := 13) X dX11_fits_43 (by decide) ?_
      refine k_iald X dX11_fits_45 1 rfl (by unfold vp_in; decide) ?_
      refine k_nm (fun z_39 ez_39 => ?_)
      have i_40 : z_39.toInt = (d_r 13).toInt := by rw [ez_39]; rfl
      have iv_41 : IV z_39 0 6 := rb_13 ez_39 hp_d_r
      refine k_ishl X dX11_fits_46 ?_
      refine k_nm (fun z_42 ez_42 => ?_)
      have iv_43 : IV z_42 1 256 := iv_shl ez_42 (iv_w iv_41 (by decide) (by decide))
      refine k_iconst (v := 1) X dX11_fits_47 (by decide) ?_
      refine k_isub X dX11_fits_48 ?_
      refine k_nm (fun z_44 ez_44 => ?_)
      have i_45 : z_44.toInt = z_42.toInt - 1 := in_sub ez_44 iv_43 (show IV 1 1 1 from (by decide)) (by decide) (by decide)
      have iv_46 : IV z_44 0 255 := iz5 i_45 iv_43 (by decide) (by decide)
      refine k_ic_ne 58 X dX11_fits_49 (by decide) (fun h_47 => ?_) (fun h_47 => ?_)
      · skip
        refine k_iconst (v := 0) X dX11_fits_58 (by decide) ?_
        refine k_ior X dX11_fits_59 ?_
        refine k_nm (fun z_48 ez_48 => ?_)
        refine k_istore_n [(1, .int z_48), (2, .int u_16), (0, .ref h0)] X dX11_fits_60 (by decide) rfl ?_
        obtain ⟨z_49, ez_49⟩ : ∃ y : Int32, u_16 + Int32.ofInt 1 = y := ⟨_, rfl⟩
        refine k_iinc z_49 [(2, .int z_49), (1, .int z_48), (0, .ref h0)] 1 X dX11_fits_61 rfl ez_49 (by decide) rfl ?_
        have i_50 : z_49.toInt = u_16.toInt + 1 := in_inc ez_49 (by decide) iv_27 (by decide) (by decide)
        have iv_51 : IV z_49 1 4 := iz1 i_50 iv_27 (by decide) (by decide)
        refine k_goto 21 X dX11_fits_64 (by decide) ?_
        refine k_sub [(cAI g a_r 311 d_r), (cAI g a_st 44 d_st), (cAI g a_from 8 d_from2_33), (cAI g a_begin 8 d_begin2_29), (cAI g a_motor 8 d_motor2_35), (cAI g a_change 8 d_change2_31), (cAI g a_startFrame 8 d_startFrame2_37), (cAI g a_changeFrame 8 d_changeFrame2_32), (cAI g a_lostAt 8 d_lostAt2_34), (cAI g a_blackAt 8 d_blackAt2_30), (cAI g a_slips 8 d_slips2_36), (cO11_i1r1i10r1i2r5i2r12i3r4i2 h0 m_thrown2_1 a_tape m_taped m_size m_at m_end m_token m_whole m_nameSize m_fault m_place m_trouble2_2 a_letters m_failed m_hasHouse a_r a_fresh a_st a_undone a_kept m_undos m_images a_from a_begin a_motor a_change a_startFrame a_changeFrame a_lostAt a_blackAt a_slips a_leftArc a_died a_arcs m_bestSum m_nearest m_nearestTown a_there a_backAt a_sorted a_parts m_seed1 m_darkNow)] [1, 2, 3, 4, 5, 6, 7, 8, 9, 10, 11, 0] rfl (by decide) rfl ?_
        exact ih_20 _ (by omega) d_begin2_29 d_blackAt2_30 d_change2_31 d_changeFrame2_32 d_from2_33 d_lostAt2_34 d_motor2_35 d_slips2_36 d_startFrame2_37 z_48 z_49 rfl (iv_w iv_51 (by decide) (by decide))
      · skip
        have iv_52 : IV r_38 0 255 := iv_meet (iv_any r_38) (iv_e h_47 iv_46) (by decide) (by decide)
        refine k_iconst (v := 1) X dX11_fits_52 (by decide) ?_
        refine k_iload_n X dX11_fits_53 0 rfl ?_
        refine k_ishl X dX11_fits_54 ?_
        refine k_nm (fun z_53 ez_53 => ?_)
        have iv_54 : IV z_53 1 256 := iv_shl ez_53 (iv_w iv_27 (by decide) (by decide))
        refine k_goto 59 X dX11_fits_55 (by decide) ?_
        refine k_ior X dX11_fits_59 ?_
        refine k_nm (fun z_55 ez_55 => ?_)
        refine k_istore_n [(1, .int z_55), (2, .int u_16), (0, .ref h0)] X dX11_fits_60 (by decide) rfl ?_
        obtain ⟨z_56, ez_56⟩ : ∃ y : Int32, u_16 + Int32.ofInt 1 = y := ⟨_, rfl⟩
        refine k_iinc z_56 [(2, .int z_56), (1, .int z_55), (0, .ref h0)] 1 X dX11_fits_61 rfl ez_56 (by decide) rfl ?_
        have i_57 : z_56.toInt = u_16.toInt + 1 := in_inc ez_56 (by decide) iv_27 (by decide) (by decide)
        have iv_58 : IV z_56 1 4 := iz1 i_57 iv_27 (by decide) (by decide)
        refine k_goto 21 X dX11_fits_64 (by decide) ?_
        refine k_sub [(cAI g a_r 311 d_r), (cAI g a_st 44 d_st), (cAI g a_from 8 d_from2_33), (cAI g a_begin 8 d_begin2_29), (cAI g a_motor 8 d_motor2_35), (cAI g a_change 8 d_change2_31), (cAI g a_startFrame 8 d_startFrame2_37), (cAI g a_changeFrame 8 d_changeFrame2_32), (cAI g a_lostAt 8 d_lostAt2_34), (cAI g a_blackAt 8 d_blackAt2_30), (cAI g a_slips 8 d_slips2_36), (cO11_i1r1i10r1i2r5i2r12i3r4i2 h0 m_thrown2_1 a_tape m_taped m_size m_at m_end m_token m_whole m_nameSize m_fault m_place m_trouble2_2 a_letters m_failed m_hasHouse a_r a_fresh a_st a_undone a_kept m_undos m_images a_from a_begin a_motor a_change a_startFrame a_changeFrame a_lostAt a_blackAt a_slips a_leftArc a_died a_arcs m_bestSum m_nearest m_nearestTown a_there a_backAt a_sorted a_parts m_seed1 m_darkNow)] [1, 2, 3, 4, 5, 6, 7, 8, 9, 10, 11, 0] rfl (by decide) rfl ?_
        exact ih_20 _ (by omega) d_begin2_29 d_blackAt2_30 d_change2_31 d_changeFrame2_32 d_from2_33 d_lostAt2_34 d_motor2_35 d_slips2_36 d_startFrame2_37 z_55 z_56 rfl (iv_w iv_58 (by decide) (by decide))
  · skip
    have iv_59 : IV m_hasHouse 0 0 := iv_meet hv_m_hasHouse (iv_e h_4 (show IV 0 0 0 from (by decide))) (by decide) (by decide)
    refine k_aload_n X dX11_fits_11 0 rfl ?_
    refine k_iconst (v := 1) X dX11_fits_12 (by decide) ?_
    refine k_callVI (n := 1) (As := [.int 1]) (st := []) X [(cO11_i1r1i10r1i2r5i2r12i3r4i2 h0 m_thrown2_1 a_tape m_taped m_size m_at m_end m_token m_whole m_nameSize m_fault m_place m_trouble2_2 a_letters m_failed m_hasHouse a_r a_fresh a_st a_undone a_kept m_undos m_images a_from a_begin a_motor a_change a_startFrame a_changeFrame a_lostAt a_blackAt a_slips a_leftArc a_died a_arcs m_bestSum m_nearest m_nearestTown a_there a_backAt a_sorted a_parts m_seed1 m_darkNow)] [(cAI g a_r 311 d_r), (cAI g a_st 44 d_st), (cAI g a_from 8 d_from), (cAI g a_begin 8 d_begin), (cAI g a_motor 8 d_motor), (cAI g a_change 8 d_change), (cAI g a_startFrame 8 d_startFrame), (cAI g a_changeFrame 8 d_changeFrame), (cAI g a_lostAt 8 d_lostAt), (cAI g a_blackAt 8 d_blackAt), (cAI g a_slips 8 d_slips)] [11] [0, 1, 2, 3, 4, 5, 6, 7, 8, 9, 10] (m_no l g h0 1 m_thrown2_1 a_tape m_taped m_size m_at m_end m_token m_whole m_nameSize m_fault m_place m_trouble2_2 a_letters m_failed m_hasHouse a_r a_fresh a_st a_undone a_kept m_undos m_images a_from a_begin a_motor a_change a_startFrame a_changeFrame a_lostAt a_blackAt a_slips a_leftArc a_died a_arcs m_bestSum m_nearest m_nearestTown a_there a_backAt a_sorted a_parts m_seed1 m_darkNow) dX11_fits_13 mw485 mw486 mw487 mw5 mw488 rfl 11 rfl rfl 0 _ rfl yk_yX11_no_1 rfl (Nat.le_of_ble_eq_true rfl) (Nat.le_of_ble_eq_true rfl) (Nat.le_of_ble_eq_true rfl) (Nat.le_of_ble_eq_true rfl) (Nat.le_of_ble_eq_true rfl) rfl rfl (by decide +kernel) rfl (by decide +kernel) (by decide +kernel) ?_
    rintro r_61 w ⟨m_trouble2_60, iv_62, rfl⟩
    refine k_ws [(cAI g a_r 311 d_r), (cAI g a_st 44 d_st), (cAI g a_from 8 d_from), (cAI g a_begin 8 d_begin), (cAI g a_motor 8 d_motor), (cAI g a_change 8 d_change), (cAI g a_startFrame 8 d_startFrame), (cAI g a_changeFrame 8 d_changeFrame), (cAI g a_lostAt 8 d_lostAt), (cAI g a_blackAt 8 d_blackAt), (cAI g a_slips 8 d_slips), (cO11_i1r1i10r1i2r5i2r12i3r4i2 h0 m_thrown2_1 a_tape m_taped m_size m_at m_end m_token m_whole m_nameSize m_fault m_place m_trouble2_60 a_letters m_failed m_hasHouse a_r a_fresh a_st a_undone a_kept m_undos m_images a_from a_begin a_motor a_change a_startFrame a_changeFrame a_lostAt a_blackAt a_slips a_leftArc a_died a_arcs m_bestSum m_nearest m_nearestTown a_there a_backAt a_sorted a_parts m_seed1 m_darkNow)] rfl ?_
    exact k_iret X hr dX11_fits_16 (Nat.le_of_ble_eq_true rfl) (Nat.le_of_ble_eq_true rfl) [11, 0, 1, 2, 3, 4, 5, 6, 7, 8, 9, 10] (by decide) rfl rfl ⟨d_begin, d_blackAt, d_change, d_changeFrame, d_from, d_lostAt, d_motor, d_slips, d_startFrame, m_thrown2_1, m_trouble2_60, rfl⟩

theorem dX11_bestSlipOf_0 : decode cX11_bestSlipOf 0 = .ok (.iconst (-1), 1) := dk_2 rfl
theorem dX11_bestSlipOf_1 : decode cX11_bestSlipOf 1 = .ok (.istore_n 2, 1) := dk_61 rfl
theorem dX11_bestSlipOf_2 : decode cX11_bestSlipOf 2 = .ok (.iconst 0, 1) := dk_3 rfl
theorem dX11_bestSlipOf_3 : decode cX11_bestSlipOf 3 = .ok (.istore_n 3, 1) := dk_62 rfl
theorem dX11_bestSlipOf_4 : decode cX11_bestSlipOf 4 = .ok (.iload_n 3, 1) := dk_29 rfl
theorem dX11_bestSlipOf_5 : decode cX11_bestSlipOf 5 = .ok (.bipush 40, 2) := dk_16 rfl rfl (by decide)
theorem dX11_bestSlipOf_7 : decode cX11_bestSlipOf 7 = .ok (.if_icmp .gt 81, 3) := dk_163 rfl rfl rfl (by decide)
theorem dX11_bestSlipOf_10 : decode cX11_bestSlipOf 10 = .ok (.iconst 0, 1) := dk_3 rfl
theorem dX11_bestSlipOf_11 : decode cX11_bestSlipOf 11 = .ok (.istore 4, 2) := dk_54 rfl rfl rfl
theorem dX11_bestSlipOf_13 : decode cX11_bestSlipOf 13 = .ok (.iload 4, 2) := dk_21 rfl rfl rfl
theorem dX11_bestSlipOf_15 : decode cX11_bestSlipOf 15 = .ok (.bipush 8, 2) := dk_16 rfl rfl (by decide)
theorem dX11_bestSlipOf_17 : decode cX11_bestSlipOf 17 = .ok (.if_icmp .ge 17, 3) := dk_162 rfl rfl rfl (by decide)
theorem dX11_bestSlipOf_20 : decode cX11_bestSlipOf 20 = .ok (.aload_n 0, 1) := dk_42 rfl
theorem dX11_bestSlipOf_21 : decode cX11_bestSlipOf 21 = .ok (.getfield 59, 3) := dk_180 rfl rfl rfl rfl
theorem dX11_bestSlipOf_24 : decode cX11_bestSlipOf 24 = .ok (.iload 4, 2) := dk_21 rfl rfl rfl
theorem dX11_bestSlipOf_26 : decode cX11_bestSlipOf 26 = .ok (.iload_n 3, 1) := dk_29 rfl
theorem dX11_bestSlipOf_27 : decode cX11_bestSlipOf 27 = .ok (.iastore, 1) := dk_79 rfl
theorem dX11_bestSlipOf_28 : decode cX11_bestSlipOf 28 = .ok (.iinc 4 1, 3) := dk_132 rfl rfl rfl rfl (by decide)
theorem dX11_bestSlipOf_31 : decode cX11_bestSlipOf 31 = .ok (.goto (-18), 3) := dk_167 rfl rfl rfl (by decide)
theorem dX11_bestSlipOf_34 : decode cX11_bestSlipOf 34 = .ok (.aload_n 0, 1) := dk_42 rfl
theorem dX11_bestSlipOf_35 : decode cX11_bestSlipOf 35 = .ok (.iload_n 1, 1) := dk_27 rfl
theorem dX11_bestSlipOf_36 : decode cX11_bestSlipOf 36 = .ok (.invokevirtual 367, 3) := dk_182 rfl rfl rfl rfl
theorem dX11_bestSlipOf_39 : decode cX11_bestSlipOf 39 = .ok (.aload_n 0, 1) := dk_42 rfl
theorem dX11_bestSlipOf_40 : decode cX11_bestSlipOf 40 = .ok (.iconst 0, 1) := dk_3 rfl
theorem dX11_bestSlipOf_41 : decode cX11_bestSlipOf 41 = .ok (.invokevirtual 382, 3) := dk_182 rfl rfl rfl rfl
theorem dX11_bestSlipOf_44 : decode cX11_bestSlipOf 44 = .ok (.aload_n 0, 1) := dk_42 rfl
theorem dX11_bestSlipOf_45 : decode cX11_bestSlipOf 45 = .ok (.iconst 1, 1) := dk_4 rfl
theorem dX11_bestSlipOf_46 : decode cX11_bestSlipOf 46 = .ok (.invokevirtual 382, 3) := dk_182 rfl rfl rfl rfl
theorem dX11_bestSlipOf_49 : decode cX11_bestSlipOf 49 = .ok (.iadd, 1) := dk_96 rfl
theorem dX11_bestSlipOf_50 : decode cX11_bestSlipOf 50 = .ok (.aload_n 0, 1) := dk_42 rfl
theorem dX11_bestSlipOf_51 : decode cX11_bestSlipOf 51 = .ok (.iconst 2, 1) := dk_5 rfl
theorem dX11_bestSlipOf_52 : decode cX11_bestSlipOf 52 = .ok (.invokevirtual 382, 3) := dk_182 rfl rfl rfl rfl
theorem dX11_bestSlipOf_55 : decode cX11_bestSlipOf 55 = .ok (.iadd, 1) := dk_96 rfl
theorem dX11_bestSlipOf_56 : decode cX11_bestSlipOf 56 = .ok (.istore 4, 2) := dk_54 rfl rfl rfl
theorem dX11_bestSlipOf_58 : decode cX11_bestSlipOf 58 = .ok (.iload_n 2, 1) := dk_28 rfl
theorem dX11_bestSlipOf_59 : decode cX11_bestSlipOf 59 = .ok (.ifCond .lt 15, 3) := dk_155 rfl rfl rfl (by decide)
theorem dX11_bestSlipOf_62 : decode cX11_bestSlipOf 62 = .ok (.iload 4, 2) := dk_21 rfl rfl rfl
theorem dX11_bestSlipOf_64 : decode cX11_bestSlipOf 64 = .ok (.aload_n 0, 1) := dk_42 rfl
theorem dX11_bestSlipOf_65 : decode cX11_bestSlipOf 65 = .ok (.getfield 425, 3) := dk_180 rfl rfl rfl rfl
theorem dX11_bestSlipOf_68 : decode cX11_bestSlipOf 68 = .ok (.if_icmp .lt 6, 3) := dk_161 rfl rfl rfl (by decide)
theorem dX11_bestSlipOf_71 : decode cX11_bestSlipOf 71 = .ok (.goto 11, 3) := dk_167 rfl rfl rfl (by decide)
theorem dX11_bestSlipOf_74 : decode cX11_bestSlipOf 74 = .ok (.iload_n 3, 1) := dk_29 rfl
theorem dX11_bestSlipOf_75 : decode cX11_bestSlipOf 75 = .ok (.istore_n 2, 1) := dk_61 rfl
theorem dX11_bestSlipOf_76 : decode cX11_bestSlipOf 76 = .ok (.aload_n 0, 1) := dk_42 rfl
theorem dX11_bestSlipOf_77 : decode cX11_bestSlipOf 77 = .ok (.iload 4, 2) := dk_21 rfl rfl rfl
theorem dX11_bestSlipOf_79 : decode cX11_bestSlipOf 79 = .ok (.putfield 425, 3) := dk_181 rfl rfl rfl rfl
theorem dX11_bestSlipOf_82 : decode cX11_bestSlipOf 82 = .ok (.iinc 3 1, 3) := dk_132 rfl rfl rfl rfl (by decide)
theorem dX11_bestSlipOf_85 : decode cX11_bestSlipOf 85 = .ok (.goto (-81), 3) := dk_167 rfl rfl rfl (by decide)
theorem dX11_bestSlipOf_88 : decode cX11_bestSlipOf 88 = .ok (.iload_n 2, 1) := dk_28 rfl
theorem dX11_bestSlipOf_89 : decode cX11_bestSlipOf 89 = .ok (.ireturn, 1) := dk_172 rfl
set_option maxHeartbeats 4000000 in
set_option maxRecDepth 100000 in
theorem m_bestSlipOf (l : Launch) (g : Gx) (h0 : Nat) (p0 : Int32) (m_thrown : Int32) (a_tape : Nat) (m_taped : Int32) (m_size : Int32) (m_at : Int32) (m_end : Int32) (m_token : Int32) (m_whole : Int32) (m_nameSize : Int32) (m_fault : Int32) (m_place : Int32) (m_trouble : Int32) (a_letters : Nat) (m_failed : Int32) (m_hasHouse : Int32) (a_r : Nat) (a_fresh : Nat) (a_st : Nat) (a_undone : Nat) (a_kept : Nat) (m_undos : Int32) (m_images : Int32) (a_from : Nat) (a_begin : Nat) (a_motor : Nat) (a_change : Nat) (a_startFrame : Nat) (a_changeFrame : Nat) (a_lostAt : Nat) (a_blackAt : Nat) (a_slips : Nat) (a_leftArc : Nat) (a_died : Nat) (a_arcs : Nat) (m_bestSum : Int32) (m_nearest : Int32) (m_nearestTown : Int32) (a_there : Nat) (a_backAt : Nat) (a_sorted : Nat) (a_parts : Nat) (m_seed1 : Int32) (m_darkNow : Int32) (d_r : Nat → Int32) (d_st : Nat → Int32) (d_from : Nat → Int32) (d_begin : Nat → Int32) (d_motor : Nat → Int32) (d_change : Nat → Int32) (d_startFrame : Nat → Int32) (d_changeFrame : Nat → Int32) (d_lostAt : Nat → Int32) (d_blackAt : Nat → Int32) (d_slips : Nat → Int32) (hv_p0 : IV p0 0 3) (hp_d_r : RInv d_r) : cI l g yX11_bestSlipOf cX11_bestSlipOf 5 (some .int) 5 107 0 0 [.ref h0, .int p0] [(cO11_i1r1i10r1i2r5i2r12i3r4i2 h0 m_thrown a_tape m_taped m_size m_at m_end m_token m_whole m_nameSize m_fault m_place m_trouble a_letters m_failed m_hasHouse a_r a_fresh a_st a_undone a_kept m_undos m_images a_from a_begin a_motor a_change a_startFrame a_changeFrame a_lostAt a_blackAt a_slips a_leftArc a_died a_arcs m_bestSum m_nearest m_nearestTown a_there a_backAt a_sorted a_parts m_seed1 m_darkNow), (cAI g a_r 311 d_r), (cAI g a_st 44 d_st), (cAI g a_from 8 d_from), (cAI g a_begin 8 d_begin), (cAI g a_motor 8 d_motor), (cAI g a_change 8 d_change), (cAI g a_startFrame 8 d_startFrame), (cAI g a_changeFrame 8 d_changeFrame), (cAI g a_lostAt 8 d_lostAt), (cAI g a_blackAt 8 d_blackAt), (cAI g a_slips 8 d_slips)] (fun r w => ∃ (d_begin2 : Nat → Int32) (m_bestSum2 : Int32) (d_blackAt2 : Nat → Int32) (d_change2 : Nat → Int32) (d_changeFrame2 : Nat → Int32) (d_from2 : Nat → Int32) (d_lostAt2 : Nat → Int32) (d_motor2 : Nat → Int32) (d_slips2 : Nat → Int32) (d_startFrame2 : Nat → Int32), w = [(cO11_i1r1i10r1i2r5i2r12i3r4i2 h0 m_thrown a_tape m_taped m_size m_at m_end m_token m_whole m_nameSize m_fault m_place m_trouble a_letters m_failed m_hasHouse a_r a_fresh a_st a_undone a_kept m_undos m_images a_from a_begin a_motor a_change a_startFrame a_changeFrame a_lostAt a_blackAt a_slips a_leftArc a_died a_arcs m_bestSum2 m_nearest m_nearestTown a_there a_backAt a_sorted a_parts m_seed1 m_darkNow), (cAI g a_r 311 d_r), (cAI g a_st 44 d_st), (cAI g a_from 8 d_from2), (cAI g a_begin 8 d_begin2), (cAI g a_motor 8 d_motor2), (cAI g a_change 8 d_change2), (cAI g a_startFrame 8 d_startFrame2), (cAI g a_changeFrame 8 d_changeFrame2), (cAI g a_lostAt 8 d_lostAt2), (cAI g a_blackAt 8 d_blackAt2), (cAI g a_slips 8 d_slips2)]) := by
  refine cI.of (by decide) (Nat.le_of_ble_eq_true rfl) ?_
  intro p e s m args below meth c A X hr hi
  refine k_lveq [(0, .ref h0), (1, .int p0)] rfl ?_
  refine k_iconst (v := -1) X dX11_bestSlipOf_0 (by decide) ?_
  refine k_istore_n [(2, .int (-1)), (0, .ref h0), (1, .int p0)] X dX11_bestSlipOf_1 (by decide) rfl ?_
  refine k_iconst (v := 0) X dX11_bestSlipOf_2 (by decide) ?_
  refine k_istore_n [(3, .int 0), (2, .int (-1)), (0, .ref h0), (1, .int p0)] X dX11_bestSlipOf_3 (by decide) rfl ?_
  refine (fun hL : ∀ (nn_15 : Nat) (uf_1 : Nat → Int32) (uf_2 : Nat → Int32) (uf_3 : Nat → Int32) (uf_4 : Nat → Int32) (uf_5 : Nat → Int32) (uf_6 : Nat → Int32) (uf_7 : Nat → Int32) (uf_8 : Nat → Int32) (uf_9 : Nat → Int32) (u_10 : Int32) (u_12 : Int32) (u_14 : Int32), (40 + 1 - u_12.toInt).toNat = nn_15 → (IV u_10 (-1) 255) → (IV u_12 0 255) → Wk p l e _ s m args below meth c _ A g _ _ _ [(cO11_i1r1i10r1i2r5i2r12i3r4i2 h0 m_thrown a_tape m_taped m_size m_at m_end m_token m_whole m_nameSize m_fault m_place m_trouble a_letters m_failed m_hasHouse a_r a_fresh a_st a_undone a_kept m_undos m_images a_from a_begin a_motor a_change a_startFrame a_changeFrame a_lostAt a_blackAt a_slips a_leftArc a_died a_arcs u_14 m_nearest m_nearestTown a_there a_backAt a_sorted a_parts m_seed1 m_darkNow), (cAI g a_r 311 d_r), (cAI g a_st 44 d_st), (cAI g a_from 8 uf_5), (cAI g a_begin 8 uf_1), (cAI g a_motor 8 uf_7), (cAI g a_change 8 uf_3), (cAI g a_startFrame 8 uf_9), (cAI g a_changeFrame 8 uf_4), (cAI g a_lostAt 8 uf_6), (cAI g a_blackAt 8 uf_2), (cAI g a_slips 8 uf_8)] [(3, .int u_12), (2, .int u_10), (0, .ref h0), (1, .int p0)] 4 [] => hL _ d_begin d_blackAt d_change d_changeFrame d_from d_lostAt d_motor d_slips d_startFrame ((-1)) 0 m_bestSum rfl (iv_w (show IV (-1) (-1) (-1) from (by decide)) (by decide) (by decide)) (iv_w (show IV 0 0 0 from (by decide)) (by decide) (by decide))) ?_
  refine fun nn_15 => Nat.strongRecOn nn_15 (fun nn_15 ih_17 => ?_)
  intro uf_1 uf_2 uf_3 uf_4 uf_5 uf_6 uf_7 uf_8 uf_9 u_10 u_12 u_14 hm_16 hv_11 hv_13
  refine k_iload_n X dX11_bestSlipOf_4 0 rfl ?_
  refine k_bipush (v := 40) X dX11_bestSlipOf_5 (by decide) ?_
  refine k_ic_gt 88 X dX11_bestSlipOf_7 (by decide) (fun h_18 => ?_) (fun h_18 => ?_)
  · skip
    have j_19 : 40 < u_12.toInt := iv_lt h_18
    have iv_20 : IV u_12 41 255 := iv_ltR (iv_lt h_18) (show IV 40 40 40 from (by decide)) hv_13 (by decide)
    refine k_iload_n X dX11_bestSlipOf_88 1 rfl ?_
    exact k_iret X hr dX11_bestSlipOf_89 (Nat.le_of_ble_eq_true rfl) (Nat.le_of_ble_eq_true rfl) [0, 1, 2, 3, 4, 5, 6, 7, 8, 9, 10, 11] (by decide) rfl rfl ⟨uf_1, u_14, uf_2, uf_3, uf_4, uf_5, uf_6, uf_7, uf_8, uf_9, rfl⟩
  · skip
    have j_21 : u_12.toInt ≤ 40 := iv_nlt h_18
    have iv_22 : IV u_12 0 40 := iv_leL (iv_nlt h_18) hv_13 (show IV 40 40 40 from (by decide)) (by decide)
    refine k_iconst (v := 0) X dX11_bestSlipOf_10 (by decide) ?_
    refine k_istore [(4, .int 0), (3, .int u_12), (2, .int u_10), (0, .ref h0), (1, .int p0)] X dX11_bestSlipOf_11 (by decide) rfl ?_
    refine (fun hL : ∀ (nn_26 : Nat) (uf_23 : Nat → Int32) (u_24 : Int32), (8 - u_24.toInt).toNat = nn_26 → (IV u_24 0 8) → Wk p l e _ s m args below meth c _ A g _ _ _ [(cO11_i1r1i10r1i2r5i2r12i3r4i2 h0 m_thrown a_tape m_taped m_size m_at m_end m_token m_whole m_nameSize m_fault m_place m_trouble a_letters m_failed m_hasHouse a_r a_fresh a_st a_undone a_kept m_undos m_images a_from a_begin a_motor a_change a_startFrame a_changeFrame a_lostAt a_blackAt a_slips a_leftArc a_died a_arcs u_14 m_nearest m_nearestTown a_there a_backAt a_sorted a_parts m_seed1 m_darkNow), (cAI g a_r 311 d_r), (cAI g a_st 44 d_st), (cAI g a_from 8 uf_5), (cAI g a_begin 8 uf_1), (cAI g a_motor 8 uf_7), (cAI g a_change 8 uf_3), (cAI g a_startFrame 8 uf_9), (cAI g a_changeFrame 8 uf_4), (cAI g a_lostAt 8 uf_6), (cAI g a_blackAt 8 uf_2), (cAI g a_slips 8 uf_23)] [(4, .int u_24), (3, .int u_12), (2, .int u_10), (0, .ref h0), (1, .int p0)] 13 [] => hL _ uf_8 0 rfl (iv_w (show IV 0 0 0 from (by decide)) (by decide) (by decide))) ?_
    refine fun nn_26 => Nat.strongRecOn nn_26 (fun nn_26 ih_28 => ?_)
    intro uf_23 u_24 hm_27 hv_25
    refine k_iload X dX11_bestSlipOf_13 0 rfl ?_
    refine k_bipush (v := 8) X dX11_bestSlipOf_15 (by decide) ?_
    refine k_ic_ge 34 X dX11_bestSlipOf_17 (by decide) (fun h_29 => ?_) (fun h_29 => ?_)
    · skip
      have j_30 : 8 ≤ u_24.toInt := iv_le h_29
      have iv_31 : IV u_24 8 8 := iv_leR (iv_le h_29) (show IV 8 8 8 from (by decide)) hv_25 (by decide)
      refine k_aload_n X dX11_bestSlipOf_34 3 rfl ?_
      refine k_iload_n X dX11_bestSlipOf_35 4 rfl ?_
      refine k_callVV (n := 1) (As := [.int p0]) (st := []) X [(cO11_i1r1i10r1i2r5i2r12i3r4i2 h0 m_thrown a_tape m_taped m_size m_at m_end m_token m_whole m_nameSize m_fault m_place m_trouble a_letters m_failed m_hasHouse a_r a_fresh a_st a_undone a_kept m_undos m_images a_from a_begin a_motor a_change a_startFrame a_changeFrame a_lostAt a_blackAt a_slips a_leftArc a_died a_arcs u_14 m_nearest m_nearestTown a_there a_backAt a_sorted a_parts m_seed1 m_darkNow), (cAI g a_r 311 d_r), (cAI g a_st 44 d_st), (cAI g a_from 8 uf_5), (cAI g a_begin 8 uf_1), (cAI g a_motor 8 uf_7), (cAI g a_change 8 uf_3), (cAI g a_startFrame 8 uf_9), (cAI g a_changeFrame 8 uf_4), (cAI g a_lostAt 8 uf_6), (cAI g a_blackAt 8 uf_2), (cAI g a_slips 8 uf_23)] [] [0, 1, 2, 3, 4, 5, 6, 7, 8, 9, 10, 11] [] (m_layNight l g h0 p0 m_thrown a_tape m_taped m_size m_at m_end m_token m_whole m_nameSize m_fault m_place m_trouble a_letters m_failed m_hasHouse a_r a_fresh a_st a_undone a_kept m_undos m_images a_from a_begin a_motor a_change a_startFrame a_changeFrame a_lostAt a_blackAt a_slips a_leftArc a_died a_arcs u_14 m_nearest m_nearestTown a_there a_backAt a_sorted a_parts m_seed1 m_darkNow d_r d_st uf_5 uf_1 uf_7 uf_3 uf_9 uf_4 uf_6 uf_2 uf_23 (iv_w hv_p0 (by decide) (by decide)) hp_d_r) dX11_bestSlipOf_36 mw819 mw820 mw821 mw5 mw822 rfl 11 rfl rfl 0 _ rfl yk_yX11_layNight_1 rfl (Nat.le_of_ble_eq_true rfl) (Nat.le_of_ble_eq_true rfl) (Nat.le_of_ble_eq_true rfl) (Nat.le_of_ble_eq_true rfl) (Nat.le_of_ble_eq_true rfl) rfl rfl (by decide +kernel) rfl (by decide +kernel) (by decide +kernel) ?_
      rintro w ⟨d_begin2_32, d_blackAt2_33, d_change2_34, d_changeFrame2_35, d_from2_36, d_lostAt2_37, d_motor2_38, d_startFrame2_39, rfl⟩
      refine k_ws [(cO11_i1r1i10r1i2r5i2r12i3r4i2 h0 m_thrown a_tape m_taped m_size m_at m_end m_token m_whole m_nameSize m_fault m_place m_trouble a_letters m_failed m_hasHouse a_r a_fresh a_st a_undone a_kept m_undos m_images a_from a_begin a_motor a_change a_startFrame a_changeFrame a_lostAt a_blackAt a_slips a_leftArc a_died a_arcs u_14 m_nearest m_nearestTown a_there a_backAt a_sorted a_parts m_seed1 m_darkNow), (cAI g a_r 311 d_r), (cAI g a_st 44 d_st), (cAI g a_from 8 d_from2_36), (cAI g a_begin 8 d_begin2_32), (cAI g a_motor 8 d_motor2_38), (cAI g a_change 8 d_change2_34), (cAI g a_startFrame 8 d_startFrame2_39), (cAI g a_changeFrame 8 d_changeFrame2_35), (cAI g a_lostAt 8 d_lostAt2_37), (cAI g a_blackAt 8 d_blackAt2_33), (cAI g a_slips 8 uf_23)] rfl ?_
      refine k_aload_n X dX11_bestSlipOf_39 3 rfl ?_
      refine k_iconst (v := 0) X dX11_bestSlipOf_40 (by decide) ?_
      refine k_callVI (n := 1) (As := [.int 0]) (st := []) X [(cO11_i1r1i10r1i2r5i2r12i3r4i2 h0 m_thrown a_tape m_taped m_size m_at m_end m_token m_whole m_nameSize m_fault m_place m_trouble a_letters m_failed m_hasHouse a_r a_fresh a_st a_undone a_kept m_undos m_images a_from a_begin a_motor a_change a_startFrame a_changeFrame a_lostAt a_blackAt a_slips a_leftArc a_died a_arcs u_14 m_nearest m_nearestTown a_there a_backAt a_sorted a_parts m_seed1 m_darkNow), (cAI g a_r 311 d_r), (cAI g a_st 44 d_st), (cAI g a_from 8 d_from2_36), (cAI g a_changeFrame 8 d_changeFrame2_35), (cAI g a_lostAt 8 d_lostAt2_37), (cAI g a_blackAt 8 d_blackAt2_33)] [(cAI g a_begin 8 d_begin2_32), (cAI g a_motor 8 d_motor2_38), (cAI g a_change 8 d_change2_34), (cAI g a_startFrame 8 d_startFrame2_39), (cAI g a_slips 8 uf_23)] [0, 1, 2, 3, 8, 9, 10] [4, 5, 6, 7, 11] (m_sumOf l g h0 0 m_thrown a_tape m_taped m_size m_at m_end m_token m_whole m_nameSize m_fault m_place m_trouble a_letters m_failed m_hasHouse a_r a_fresh a_st a_undone a_kept m_undos m_images a_from a_begin a_motor a_change a_startFrame a_changeFrame a_lostAt a_blackAt a_slips a_leftArc a_died a_arcs u_14 m_nearest m_nearestTown a_there a_backAt a_sorted a_parts m_seed1 m_darkNow d_r d_st d_from2_36 d_changeFrame2_35 d_lostAt2_37 d_blackAt2_33 hp_d_r) dX11_bestSlipOf_41 mw921 mw922 mw923 mw5 mw924 rfl 11 rfl rfl 0 _ rfl yk_yX11_sumOf_1 rfl (Nat.le_of_ble_eq_true rfl) (Nat.le_of_ble_eq_true rfl) (Nat.le_of_ble_eq_true rfl) (Nat.le_of_ble_eq_true rfl) (Nat.le_of_ble_eq_true rfl) rfl rfl (by decide +kernel) rfl (by decide +kernel) (by decide +kernel) ?_
      rintro r_41 w rfl
      refine k_ws [(cAI g a_begin 8 d_begin2_32), (cAI g a_motor 8 d_motor2_38), (cAI g a_change 8 d_change2_34), (cAI g a_startFrame 8 d_startFrame2_39), (cAI g a_slips 8 uf_23), (cO11_i1r1i10r1i2r5i2r12i3r4i2 h0 m_thrown a_tape m_taped m_size m_at m_end m_token m_whole m_nameSize m_fault m_place m_trouble a_letters m_failed m_hasHouse a_r a_fresh a_st a_undone a_kept m_undos m_images a_from a_begin a_motor a_change a_startFrame a_changeFrame a_lostAt a_blackAt a_slips a_leftArc a_died a_arcs u_14 m_nearest m_nearestTown a_there a_backAt a_sorted a_parts m_seed1 m_darkNow), (cAI g a_r 311 d_r), (cAI g a_st 44 d_st), (cAI g a_from 8 d_from2_36), (cAI g a_changeFrame 8 d_changeFrame2_35), (cAI g a_lostAt 8 d_lostAt2_37), (cAI g a_blackAt 8 d_blackAt2_33)] rfl ?_
      refine k_aload_n X dX11_bestSlipOf_44 3 rfl ?_
      refine k_iconst (v := 1) X dX11_bestSlipOf_45 (by decide) ?_
      refine k_callVI (n := 1) (As := [.int 1]) (st := [.int r_41]) X [(cO11_i1r1i10r1i2r5i2r12i3r4i2 h0 m_thrown a_tape m_taped m_size m_at m_end m_token m_whole m_nameSize m_fault m_place m_trouble a_letters m_failed m_hasHouse a_r a_fresh a_st a_undone a_kept m_undos m_images a_from a_begin a_motor a_change a_startFrame a_changeFrame a_lostAt a_blackAt a_slips a_leftArc a_died a_arcs u_14 m_nearest m_nearestTown a_there a_backAt a_sorted a_parts m_seed1 m_darkNow), (cAI g a_r 311 d_r), (cAI g a_st 44 d_st), (cAI g a_from 8 d_from2_36), (cAI g a_changeFrame 8 d_changeFrame2_35), (cAI g a_lostAt 8 d_lostAt2_37), (cAI g a_blackAt 8 d_blackAt2_33)] [(cAI g a_begin 8 d_begin2_32), (cAI g a_motor 8 d_motor2_38), (cAI g a_change 8 d_change2_34), (cAI g a_startFrame 8 d_startFrame2_39), (cAI g a_slips 8 uf_23)] [5, 6, 7, 8, 9, 10, 11] [0, 1, 2, 3, 4] (m_sumOf l g h0 1 m_thrown a_tape m_taped m_size m_at m_end m_token m_whole m_nameSize m_fault m_place m_trouble a_letters m_failed m_hasHouse a_r a_fresh a_st a_undone a_kept m_undos m_images a_from a_begin a_motor a_change a_startFrame a_changeFrame a_lostAt a_blackAt a_slips a_leftArc a_died a_arcs u_14 m_nearest m_nearestTown a_there a_backAt a_sorted a_parts m_seed1 m_darkNow d_r d_st d_from2_36 d_changeFrame2_35 d_lostAt2_37 d_blackAt2_33 hp_d_r) dX11_bestSlipOf_46 mw921 mw922 mw923 mw5 mw924 rfl 11 rfl rfl 0 _ rfl yk_yX11_sumOf_1 rfl (Nat.le_of_ble_eq_true rfl) (Nat.le_of_ble_eq_true rfl) (Nat.le_of_ble_eq_true rfl) (Nat.le_of_ble_eq_true rfl) (Nat.le_of_ble_eq_true rfl) rfl rfl (by decide +kernel) rfl (by decide +kernel) (by decide +kernel) ?_
      rintro r_42 w rfl
      refine k_ws [(cAI g a_begin 8 d_begin2_32), (cAI g a_motor 8 d_motor2_38), (cAI g a_change 8 d_change2_34), (cAI g a_startFrame 8 d_startFrame2_39), (cAI g a_slips 8 uf_23), (cO11_i1r1i10r1i2r5i2r12i3r4i2 h0 m_thrown a_tape m_taped m_size m_at m_end m_token m_whole m_nameSize m_fault m_place m_trouble a_letters m_failed m_hasHouse a_r a_fresh a_st a_undone a_kept m_undos m_images a_from a_begin a_motor a_change a_startFrame a_changeFrame a_lostAt a_blackAt a_slips a_leftArc a_died a_arcs u_14 m_nearest m_nearestTown a_there a_backAt a_sorted a_parts m_seed1 m_darkNow), (cAI g a_r 311 d_r), (cAI g a_st 44 d_st), (cAI g a_from 8 d_from2_36), (cAI g a_changeFrame 8 d_changeFrame2_35), (cAI g a_lostAt 8 d_lostAt2_37), (cAI g a_blackAt 8 d_blackAt2_33)] rfl ?_
      refine k_iadd X dX11_bestSlipOf_49 ?_
      refine k_nm (fun z_43 ez_43 => ?_)
      refine k_aload_n X dX11_bestSlipOf_50 3 rfl ?_
      refine k_iconst (v := 2) X dX11_bestSlipOf_51 (by decide) ?_
      refine k_callVI (n := 1) (As := [.int 2]) (st := [.int z_43]) X [(cO11_i1r1i10r1i2r5i2r12i3r4i2 h0 m_thrown a_tape m_taped m_size m_at m_end m_token m_whole m_nameSize m_fault m_place m_trouble a_letters m_failed m_hasHouse a_r a_fresh a_st a_undone a_kept m_undos m_images a_from a_begin a_motor a_change a_startFrame a_changeFrame a_lostAt a_blackAt a_slips a_leftArc a_died a_arcs u_14 m_nearest m_nearestTown a_there a_backAt a_sorted a_parts m_seed1 m_darkNow), (cAI g a_r 311 d_r), (cAI g a_st 44 d_st), (cAI g a_from 8 d_from2_36), (cAI g a_changeFrame 8 d_changeFrame2_35), (cAI g a_lostAt 8 d_lostAt2_37), (cAI g a_blackAt 8 d_blackAt2_33)] [(cAI g a_begin 8 d_begin2_32), (cAI g a_motor 8 d_motor2_38), (cAI g a_change 8 d_change2_34), (cAI g a_startFrame 8 d_startFrame2_39), (cAI g a_slips 8 uf_23)] [5, 6, 7, 8, 9, 10, 11] [0, 1, 2, 3, 4] (m_sumOf l g h0 2 m_thrown a_tape m_taped m_size m_at m_end m_token m_whole m_nameSize m_fault m_place m_trouble a_letters m_failed m_hasHouse a_r a_fresh a_st a_undone a_kept m_undos m_images a_from a_begin a_motor a_change a_startFrame a_changeFrame a_lostAt a_blackAt a_slips a_leftArc a_died a_arcs u_14 m_nearest m_nearestTown a_there a_backAt a_sorted a_parts m_seed1 m_darkNow d_r d_st d_from2_36 d_changeFrame2_35 d_lostAt2_37 d_blackAt2_33 hp_d_r) dX11_bestSlipOf_52 mw921 mw922 mw923 mw5 mw924 rfl 11 rfl rfl 0 _ rfl yk_yX11_sumOf_1 rfl (Nat.le_of_ble_eq_true rfl) (Nat.le_of_ble_eq_true rfl) (Nat.le_of_ble_eq_true rfl) (Nat.le_of_ble_eq_true rfl) (Nat.le_of_ble_eq_true rfl) rfl rfl (by decide +kernel) rfl (by decide +kernel) (by decide +kernel) ?_
      rintro r_45 w rfl
      refine k_ws [(cAI g a_begin 8 d_begin2_32), (cAI g a_motor 8 d_motor2_38), (cAI g a_change 8 d_change2_34), (cAI g a_startFrame 8 d_startFrame2_39), (cAI g a_slips 8 uf_23), (cO11_i1r1i10r1i2r5i2r12i3r4i2 h0 m_thrown a_tape m_taped m_size m_at m_end m_token m_whole m_nameSize m_fault m_place m_trouble a_letters m_failed m_hasHouse a_r a_fresh a_st a_undone a_kept m_undos m_images a_from a_begin a_motor a_change a_startFrame a_changeFrame a_lostAt a_blackAt a_slips a_leftArc a_died a_arcs u_14 m_nearest m_nearestTown a_there a_backAt a_sorted a_parts m_seed1 m_darkNow), (cAI g a_r 311 d_r), (cAI g a_st 44 d_st), (cAI g a_from 8 d_from2_36), (cAI g a_changeFrame 8 d_changeFrame2_35), (cAI g a_lostAt 8 d_lostAt2_37), (cAI g a_blackAt 8 d_blackAt2_33)] rfl ?_
      refine k_iadd X dX11_bestSlipOf_55 ?_
      refine k_nm (fun z_46 ez_46 => ?_)
      refine k_istore [(4, .int z_46), (3, .int u_12), (2, .int u_10), (0, .ref h0), (1, .int p0)] X dX11_bestSlipOf_56 (by decide) rfl ?_
      refine k_iload_n X dX11_bestSlipOf_58 2 rfl ?_
      refine k_if_lt 74 X dX11_bestSlipOf_59 (by decide) (fun h_48 => ?_) (fun h_48 => ?_)
      · skip
        have j_49 : u_10.toInt < 0 := iv_lt h_48
        have iv_50 : IV u_10 (-1) (-1) := iv_ltL (iv_lt h_48) hv_11 (show IV 0 0 0 from (by decide)) (by decide)
        refine k_iload_n X dX11_bestSlipOf_74 1 rfl ?_
        refine k_istore_n [(2, .int u_12), (4, .int z_46), (3, .int u_12), (0, .ref h0), (1, .int p0)] X dX11_bestSlipOf_75 (by decide) rfl ?_
        refine k_aload_n X dX11_bestSlipOf_76 3 rfl ?_
        refine k_iload X dX11_bestSlipOf_77 1 rfl ?_
        refine k_put (ci := 11) [(cAI g a_begin 8 d_begin2_32), (cAI g a_motor 8 d_motor2_38), (cAI g a_change 8 d_change2_34), (cAI g a_startFrame 8 d_startFrame2_39), (cAI g a_slips 8 uf_23), (cO11_i1r1i10r1i2r5i2r12i3r4i2 h0 m_thrown a_tape m_taped m_size m_at m_end m_token m_whole m_nameSize m_fault m_place m_trouble a_letters m_failed m_hasHouse a_r a_fresh a_st a_undone a_kept m_undos m_images a_from a_begin a_motor a_change a_startFrame a_changeFrame a_lostAt a_blackAt a_slips a_leftArc a_died a_arcs z_46 m_nearest m_nearestTown a_there a_backAt a_sorted a_parts m_seed1 m_darkNow), (cAI g a_r 311 d_r), (cAI g a_st 44 d_st), (cAI g a_from 8 d_from2_36), (cAI g a_changeFrame 8 d_changeFrame2_35), (cAI g a_lostAt 8 d_lostAt2_37), (cAI g a_blackAt 8 d_blackAt2_33)] X inlX11 rfl tyX11_ok nmX11 34 (by decide) rfl dX11_bestSlipOf_79 mw1001 5 rfl rfl rfl (Nat.le_of_ble_eq_true rfl) rfl ?_
        obtain ⟨z_51, ez_51⟩ : ∃ y : Int32, u_12 + Int32.ofInt 1 = y := ⟨_, rfl⟩
        refine k_iinc z_51 [(3, .int z_51), (2, .int u_12), (4, .int z_46), (0, .ref h0), (1, .int p0)] 2 X dX11_bestSlipOf_82 rfl ez_51 (by decide) rfl ?_
        have i_52 : z_51.toInt = u_12.toInt + 1 := in_inc ez_51 (by decide) iv_22 (by decide) (by decide)
        have iv_53 : IV z_51 1 41 := iz1 i_52 iv_22 (by decide) (by decide)
        refine k_goto 4 X dX11_bestSlipOf_85 (by decide) ?_
        refine k_lv [(3, .int z_51), (2, .int u_12), (0, .ref h0), (1, .int p0)] [0, 1, 3, 4] rfl ?_
        refine k_sub [(cO11_i1r1i10r1i2r5i2r12i3r4i2 h0 m_thrown a_tape m_taped m_size m_at m_end m_token m_whole m_nameSize m_fault m_place m_trouble a_letters m_failed m_hasHouse a_r a_fresh a_st a_undone a_kept m_undos m_images a_from a_begin a_motor a_change a_startFrame a_changeFrame a_lostAt a_blackAt a_slips a_leftArc a_died a_arcs z_46 m_nearest m_nearestTown a_there a_backAt a_sorted a_parts m_seed1 m_darkNow), (cAI g a_r 311 d_r), (cAI g a_st 44 d_st), (cAI g a_from 8 d_from2_36), (cAI g a_begin 8 d_begin2_32), (cAI g a_motor 8 d_motor2_38), (cAI g a_change 8 d_change2_34), (cAI g a_startFrame 8 d_startFrame2_39), (cAI g a_changeFrame 8 d_changeFrame2_35), (cAI g a_lostAt 8 d_lostAt2_37), (cAI g a_blackAt 8 d_blackAt2_33), (cAI g a_slips 8 uf_23)] [5, 6, 7, 8, 0, 1, 2, 3, 9, 10, 11, 4] rfl (by decide) rfl ?_
        exact ih_17 _ (by omega) d_begin2_32 d_blackAt2_33 d_change2_34 d_changeFrame2_35 d_from2_36 d_lostAt2_37 d_motor2_38 uf_23 d_startFrame2_39 u_12 z_51 z_46 rfl (iv_w iv_22 (by decide) (by decide)) (iv_w iv_53 (by decide) (by decide))
      · skip
        have j_54 : 0 ≤ u_10.toInt := iv_nlt h_48
        have iv_55 : IV u_10 0 255 := iv_leR (iv_nlt h_48) (show IV 0 0 0 from (by decide)) hv_11 (by decide)
        refine k_iload X dX11_bestSlipOf_62 0 rfl ?_
        refine k_aload_n X dX11_bestSlipOf_64 3 rfl ?_
        refine k_get (ci := 11) X inlX11 rfl 34 (by decide) dX11_bestSlipOf_65 mw1001 5 rfl rfl ?_
        refine k_ic_lt 74 X dX11_bestSlipOf_68 (by decide) (fun h_56 => ?_) (fun h_56 => ?_)
        · skip
          have j_57 : z_46.toInt < u_14.toInt := iv_lt h_56
          have iv_58 : IV z_46 (-2147483648) 2147483646 := iv_ltL (iv_lt h_56) (iv_any z_46) (iv_any u_14) (by decide)
          have iv_59 : IV u_14 (-2147483647) 2147483647 := iv_ltR (iv_lt h_56) (iv_any z_46) (iv_any u_14) (by decide)
          refine k_iload_n X dX11_bestSlipOf_74 1 rfl ?_
          refine k_istore_n [(2, .int u_12), (4, .int z_46), (3, .int u_12), (0, .ref h0), (1, .int p0)] X dX11_bestSlipOf_75 (by decide) rfl ?_
          refine k_aload_n X dX11_bestSlipOf_76 3 rfl ?_
          refine k_iload X dX11_bestSlipOf_77 1 rfl ?_
          refine k_put (ci := 11) [(cAI g a_begin 8 d_begin2_32), (cAI g a_motor 8 d_motor2_38), (cAI g a_change 8 d_change2_34), (cAI g a_startFrame 8 d_startFrame2_39), (cAI g a_slips 8 uf_23), (cO11_i1r1i10r1i2r5i2r12i3r4i2 h0 m_thrown a_tape m_taped m_size m_at m_end m_token m_whole m_nameSize m_fault m_place m_trouble a_letters m_failed m_hasHouse a_r a_fresh a_st a_undone a_kept m_undos m_images a_from a_begin a_motor a_change a_startFrame a_changeFrame a_lostAt a_blackAt a_slips a_leftArc a_died a_arcs z_46 m_nearest m_nearestTown a_there a_backAt a_sorted a_parts m_seed1 m_darkNow), (cAI g a_r 311 d_r), (cAI g a_st 44 d_st), (cAI g a_from 8 d_from2_36), (cAI g a_changeFrame 8 d_changeFrame2_35), (cAI g a_lostAt 8 d_lostAt2_37), (cAI g a_blackAt 8 d_blackAt2_33)] X inlX11 rfl tyX11_ok nmX11 34 (by decide) rfl dX11_bestSlipOf_79 mw1001 5 rfl rfl rfl (Nat.le_of_ble_eq_true rfl) rfl ?_
          obtain ⟨z_60, ez_60⟩ : ∃ y : Int32, u_12 + Int32.ofInt 1 = y := ⟨_, rfl⟩
          refine k_iinc z_60 [(3, .int z_60), (2, .int u_12), (4, .int z_46), (0, .ref h0), (1, .int p0)] 2 X dX11_bestSlipOf_82 rfl ez_60 (by decide) rfl ?_
          have i_61 : z_60.toInt = u_12.toInt + 1 := in_inc ez_60 (by decide) iv_22 (by decide) (by decide)
          have iv_62 : IV z_60 1 41 := iz1 i_61 iv_22 (by decide) (by decide)
          refine k_goto 4 X dX11_bestSlipOf_85 (by decide) ?_
          refine k_lv [(3, .int z_60), (2, .int u_12), (0, .ref h0), (1, .int p0)] [0, 1, 3, 4] rfl ?_
          refine k_sub [(cO11_i1r1i10r1i2r5i2r12i3r4i2 h0 m_thrown a_tape m_taped m_size m_at m_end m_token m_whole m_nameSize m_fault m_place m_trouble a_letters m_failed m_hasHouse a_r a_fresh a_st a_undone a_kept m_undos m_images a_from a_begin a_motor a_change a_startFrame a_changeFrame a_lostAt a_blackAt a_slips a_leftArc a_died a_arcs z_46 m_nearest m_nearestTown a_there a_backAt a_sorted a_parts m_seed1 m_darkNow), (cAI g a_r 311 d_r), (cAI g a_st 44 d_st), (cAI g a_from 8 d_from2_36), (cAI g a_begin 8 d_begin2_32), (cAI g a_motor 8 d_motor2_38), (cAI g a_change 8 d_change2_34), (cAI g a_startFrame 8 d_startFrame2_39), (cAI g a_changeFrame 8 d_changeFrame2_35), (cAI g a_lostAt 8 d_lostAt2_37), (cAI g a_blackAt 8 d_blackAt2_33), (cAI g a_slips 8 uf_23)] [5, 6, 7, 8, 0, 1, 2, 3, 9, 10, 11, 4] rfl (by decide) rfl ?_
          exact ih_17 _ (by omega) d_begin2_32 d_blackAt2_33 d_change2_34 d_changeFrame2_35 d_from2_36 d_lostAt2_37 d_motor2_38 uf_23 d_startFrame2_39 u_12 z_60 z_46 rfl (iv_w iv_22 (by decide) (by decide)) (iv_w iv_62 (by decide) (by decide))
        · skip
          have j_63 : u_14.toInt ≤ z_46.toInt := iv_nlt h_56
          refine k_goto 82 X dX11_bestSlipOf_71 (by decide) ?_
          obtain ⟨z_64, ez_64⟩ : ∃ y : Int32, u_12 + Int32.ofInt 1 = y := ⟨_, rfl⟩
          refine k_iinc z_64 [(3, .int z_64), (4, .int z_46), (2, .int u_10), (0, .ref h0), (1, .int p0)] 1 X dX11_bestSlipOf_82 rfl ez_64 (by decide) rfl ?_
          have i_65 : z_64.toInt = u_12.toInt + 1 := in_inc ez_64 (by decide) iv_22 (by decide) (by decide)
          have iv_66 : IV z_64 1 41 := iz1 i_65 iv_22 (by decide) (by decide)
          refine k_goto 4 X dX11_bestSlipOf_85 (by decide) ?_
          refine k_lv [(3, .int z_64), (2, .int u_10), (0, .ref h0), (1, .int p0)] [0, 2, 3, 4] rfl ?_
          refine k_sub [(cO11_i1r1i10r1i2r5i2r12i3r4i2 h0 m_thrown a_tape m_taped m_size m_at m_end m_token m_whole m_nameSize m_fault m_place m_trouble a_letters m_failed m_hasHouse a_r a_fresh a_st a_undone a_kept m_undos m_images a_from a_begin a_motor a_change a_startFrame a_changeFrame a_lostAt a_blackAt a_slips a_leftArc a_died a_arcs u_14 m_nearest m_nearestTown a_there a_backAt a_sorted a_parts m_seed1 m_darkNow), (cAI g a_r 311 d_r), (cAI g a_st 44 d_st), (cAI g a_from 8 d_from2_36), (cAI g a_begin 8 d_begin2_32), (cAI g a_motor 8 d_motor2_38), (cAI g a_change 8 d_change2_34), (cAI g a_startFrame 8 d_startFrame2_39), (cAI g a_changeFrame 8 d_changeFrame2_35), (cAI g a_lostAt 8 d_lostAt2_37), (cAI g a_blackAt 8 d_blackAt2_33), (cAI g a_slips 8 uf_23)] [5, 6, 7, 8, 0, 1, 2, 3, 9, 10, 11, 4] rfl (by decide) rfl ?_
          exact ih_17 _ (by omega) d_begin2_32 d_blackAt2_33 d_change2_34 d_changeFrame2_35 d_from2_36 d_lostAt2_37 d_motor2_38 uf_23 d_startFrame2_39 u_10 z_64 u_14 rfl (iv_w iv_55 (by decide) (by decide)) (iv_w iv_66 (by decide) (by decide))
    · skip
      have j_67 : u_24.toInt < 8 := iv_nle h_29
      have iv_68 : IV u_24 0 7 := iv_ltL (iv_nle h_29) hv_25 (show IV 8 8 8 from (by decide)) (by decide)
      refine k_aload_n X dX11_bestSlipOf_20 3 rfl ?_
      refine k_get (ci := 11) X inlX11 rfl 30 (by decide) dX11_bestSlipOf_21 mw183 0 rfl rfl ?_
      refine k_iload X dX11_bestSlipOf_24 0 rfl ?_
      refine k_iload_n X dX11_bestSlipOf_26 1 rfl ?_
      refine k_iast [(cO11_i1r1i10r1i2r5i2r12i3r4i2 h0 m_thrown a_tape m_taped m_size m_at m_end m_token m_whole m_nameSize m_fault m_place m_trouble a_letters m_failed m_hasHouse a_r a_fresh a_st a_undone a_kept m_undos m_images a_from a_begin a_motor a_change a_startFrame a_changeFrame a_lostAt a_blackAt a_slips a_leftArc a_died a_arcs u_14 m_nearest m_nearestTown a_there a_backAt a_sorted a_parts m_seed1 m_darkNow), (cAI g a_r 311 d_r), (cAI g a_st 44 d_st), (cAI g a_from 8 uf_5), (cAI g a_begin 8 uf_1), (cAI g a_motor 8 uf_7), (cAI g a_change 8 uf_3), (cAI g a_startFrame 8 uf_9), (cAI g a_changeFrame 8 uf_4), (cAI g a_lostAt 8 uf_6), (cAI g a_blackAt 8 uf_2), (cAI g a_slips 8 (upd uf_23 (u_24 : Int32).toNatClampNeg u_12))] X dX11_bestSlipOf_27 11 rfl (iv_in iv_68 (by decide) (by decide)) rfl ?_
      refine (fun hg : ∀ fa_69 : Nat → Int32, Wk p l e _ s m args below meth c _ A g _ _ _ [(cO11_i1r1i10r1i2r5i2r12i3r4i2 h0 m_thrown a_tape m_taped m_size m_at m_end m_token m_whole m_nameSize m_fault m_place m_trouble a_letters m_failed m_hasHouse a_r a_fresh a_st a_undone a_kept m_undos m_images a_from a_begin a_motor a_change a_startFrame a_changeFrame a_lostAt a_blackAt a_slips a_leftArc a_died a_arcs u_14 m_nearest m_nearestTown a_there a_backAt a_sorted a_parts m_seed1 m_darkNow), (cAI g a_r 311 d_r), (cAI g a_st 44 d_st), (cAI g a_from 8 uf_5), (cAI g a_begin 8 uf_1), (cAI g a_motor 8 uf_7), (cAI g a_change 8 uf_3), (cAI g a_startFrame 8 uf_9), (cAI g a_changeFrame 8 uf_4), (cAI g a_lostAt 8 uf_6), (cAI g a_blackAt 8 uf_2), (cAI g a_slips 8 fa_69)] _ _ _ => hg _) (fun fa_69 => ?_)
      obtain ⟨z_70, ez_70⟩ : ∃ y : Int32, u_24 + Int32.ofInt 1 = y := ⟨_, rfl⟩
      refine k_iinc z_70 [(4, .int z_70), (3, .int u_12), (2, .int u_10), (0, .ref h0), (1, .int p0)] 0 X dX11_bestSlipOf_28 rfl ez_70 (by decide) rfl ?_
      have i_71 : z_70.toInt = u_24.toInt + 1 := in_inc ez_70 (by decide) iv_68 (by decide) (by decide)
      have iv_72 : IV z_70 1 8 := iz1 i_71 iv_68 (by decide) (by decide)
      refine k_goto 13 X dX11_bestSlipOf_31 (by decide) ?_
      exact ih_28 _ (by omega) fa_69 z_70 rfl (iv_w iv_72 (by decide) (by decide))

theorem dX11_bestSlip_0 : decode cX11_bestSlip 0 = .ok (.aload_n 0, 1) := dk_42 rfl
theorem dX11_bestSlip_1 : decode cX11_bestSlip 1 = .ok (.invokevirtual 200, 3) := dk_182 rfl rfl rfl rfl
theorem dX11_bestSlip_4 : decode cX11_bestSlip 4 = .ok (.aload_n 0, 1) := dk_42 rfl
theorem dX11_bestSlip_5 : decode cX11_bestSlip 5 = .ok (.iload_n 1, 1) := dk_27 rfl
theorem dX11_bestSlip_6 : decode cX11_bestSlip 6 = .ok (.invokevirtual 370, 3) := dk_182 rfl rfl rfl rfl
theorem dX11_bestSlip_9 : decode cX11_bestSlip 9 = .ok (.ifCond .eq 11, 3) := dk_153 rfl rfl rfl (by decide)
theorem dX11_bestSlip_12 : decode cX11_bestSlip 12 = .ok (.aload_n 0, 1) := dk_42 rfl
theorem dX11_bestSlip_13 : decode cX11_bestSlip 13 = .ok (.iload_n 1, 1) := dk_27 rfl
theorem dX11_bestSlip_14 : decode cX11_bestSlip 14 = .ok (.invokevirtual 428, 3) := dk_182 rfl rfl rfl rfl
theorem dX11_bestSlip_17 : decode cX11_bestSlip 17 = .ok (.goto 8, 3) := dk_167 rfl rfl rfl (by decide)
theorem dX11_bestSlip_20 : decode cX11_bestSlip 20 = .ok (.aload_n 0, 1) := dk_42 rfl
theorem dX11_bestSlip_21 : decode cX11_bestSlip 21 = .ok (.iconst 1, 1) := dk_4 rfl
theorem dX11_bestSlip_22 : decode cX11_bestSlip 22 = .ok (.invokevirtual 203, 3) := dk_182 rfl rfl rfl rfl
theorem dX11_bestSlip_25 : decode cX11_bestSlip 25 = .ok (.ireturn, 1) := dk_172 rfl
set_option maxHeartbeats 4000000 in
set_option maxRecDepth 100000 in
theorem m_bestSlip (l : Launch) (g : Gx) (h0 : Nat) (p0 : Int32) (m_thrown : Int32) (a_tape : Nat) (m_taped : Int32) (m_size : Int32) (m_at : Int32) (m_end : Int32) (m_token : Int32) (m_whole : Int32) (m_nameSize : Int32) (m_fault : Int32) (m_place : Int32) (m_trouble : Int32) (a_letters : Nat) (m_failed : Int32) (m_hasHouse : Int32) (a_r : Nat) (a_fresh : Nat) (a_st : Nat) (a_undone : Nat) (a_kept : Nat) (m_undos : Int32) (m_images : Int32) (a_from : Nat) (a_begin : Nat) (a_motor : Nat) (a_change : Nat) (a_startFrame : Nat) (a_changeFrame : Nat) (a_lostAt : Nat) (a_blackAt : Nat) (a_slips : Nat) (a_leftArc : Nat) (a_died : Nat) (a_arcs : Nat) (m_bestSum : Int32) (m_nearest : Int32) (m_nearestTown : Int32) (a_there : Nat) (a_backAt : Nat) (a_sorted : Nat) (a_parts : Nat) (m_seed1 : Int32) (m_darkNow : Int32) (d_r : Nat → Int32) (d_st : Nat → Int32) (d_from : Nat → Int32) (d_begin : Nat → Int32) (d_motor : Nat → Int32) (d_change : Nat → Int32) (d_startFrame : Nat → Int32) (d_changeFrame : Nat → Int32) (d_lostAt : Nat → Int32) (d_blackAt : Nat → Int32) (d_slips : Nat → Int32) (hv_m_hasHouse : IV m_hasHouse 0 1) (hp_d_r : RInv d_r) : cI l g yX11_bestSlip cX11_bestSlip 2 (some .int) 6 131 0 0 [.ref h0, .int p0] [(cO11_i1r1i10r1i2r5i2r12i3r4i2 h0 m_thrown a_tape m_taped m_size m_at m_end m_token m_whole m_nameSize m_fault m_place m_trouble a_letters m_failed m_hasHouse a_r a_fresh a_st a_undone a_kept m_undos m_images a_from a_begin a_motor a_change a_startFrame a_changeFrame a_lostAt a_blackAt a_slips a_leftArc a_died a_arcs m_bestSum m_nearest m_nearestTown a_there a_backAt a_sorted a_parts m_seed1 m_darkNow), (cAI g a_r 311 d_r), (cAI g a_st 44 d_st), (cAI g a_from 8 d_from), (cAI g a_begin 8 d_begin), (cAI g a_motor 8 d_motor), (cAI g a_change 8 d_change), (cAI g a_startFrame 8 d_startFrame), (cAI g a_changeFrame 8 d_changeFrame), (cAI g a_lostAt 8 d_lostAt), (cAI g a_blackAt 8 d_blackAt), (cAI g a_slips 8 d_slips)] (fun r w => ∃ (d_begin2 : Nat → Int32) (m_bestSum2 : Int32) (d_blackAt2 : Nat → Int32) (d_change2 : Nat → Int32) (d_changeFrame2 : Nat → Int32) (d_from2 : Nat → Int32) (d_lostAt2 : Nat → Int32) (d_motor2 : Nat → Int32) (d_slips2 : Nat → Int32) (d_startFrame2 : Nat → Int32) (m_thrown2 : Int32) (m_trouble2 : Int32), w = [(cO11_i1r1i10r1i2r5i2r12i3r4i2 h0 m_thrown2 a_tape m_taped m_size m_at m_end m_token m_whole m_nameSize m_fault m_place m_trouble2 a_letters m_failed m_hasHouse a_r a_fresh a_st a_undone a_kept m_undos m_images a_from a_begin a_motor a_change a_startFrame a_changeFrame a_lostAt a_blackAt a_slips a_leftArc a_died a_arcs m_bestSum2 m_nearest m_nearestTown a_there a_backAt a_sorted a_parts m_seed1 m_darkNow), (cAI g a_r 311 d_r), (cAI g a_st 44 d_st), (cAI g a_from 8 d_from2), (cAI g a_begin 8 d_begin2), (cAI g a_motor 8 d_motor2), (cAI g a_change 8 d_change2), (cAI g a_startFrame 8 d_startFrame2), (cAI g a_changeFrame 8 d_changeFrame2), (cAI g a_lostAt 8 d_lostAt2), (cAI g a_blackAt 8 d_blackAt2), (cAI g a_slips 8 d_slips2)]) := by
  refine cI.of (by decide) (Nat.le_of_ble_eq_true rfl) ?_
  intro p e s m args below meth c A X hr hi
  refine k_lveq [(0, .ref h0), (1, .int p0)] rfl ?_
  refine k_aload_n X dX11_bestSlip_0 0 rfl ?_
  refine k_callVV (n := 0) (As := []) (st := []) X [(cO11_i1r1i10r1i2r5i2r12i3r4i2 h0 m_thrown a_tape m_taped m_size m_at m_end m_token m_whole m_nameSize m_fault m_place m_trouble a_letters m_failed m_hasHouse a_r a_fresh a_st a_undone a_kept m_undos m_images a_from a_begin a_motor a_change a_startFrame a_changeFrame a_lostAt a_blackAt a_slips a_leftArc a_died a_arcs m_bestSum m_nearest m_nearestTown a_there a_backAt a_sorted a_parts m_seed1 m_darkNow)] [(cAI g a_r 311 d_r), (cAI g a_st 44 d_st), (cAI g a_from 8 d_from), (cAI g a_begin 8 d_begin), (cAI g a_motor 8 d_motor), (cAI g a_change 8 d_change), (cAI g a_startFrame 8 d_startFrame), (cAI g a_changeFrame 8 d_changeFrame), (cAI g a_lostAt 8 d_lostAt), (cAI g a_blackAt 8 d_blackAt), (cAI g a_slips 8 d_slips)] [0] [1, 2, 3, 4, 5, 6, 7, 8, 9, 10, 11] (m_good l g h0 m_thrown a_tape m_taped m_size m_at m_end m_token m_whole m_nameSize m_fault m_place m_trouble a_letters m_failed m_hasHouse a_r a_fresh a_st a_undone a_kept m_undos m_images a_from a_begin a_motor a_change a_startFrame a_changeFrame a_lostAt a_blackAt a_slips a_leftArc a_died a_arcs m_bestSum m_nearest m_nearestTown a_there a_backAt a_sorted a_parts m_seed1 m_darkNow) dX11_bestSlip_1 mw477 mw478 mw479 mw5 mw480 rfl 11 rfl rfl 0 _ rfl yk_yX11_good_0 rfl (Nat.le_of_ble_eq_true rfl) (Nat.le_of_ble_eq_true rfl) (Nat.le_of_ble_eq_true rfl) (Nat.le_of_ble_eq_true rfl) (Nat.le_of_ble_eq_true rfl) rfl rfl (by decide +kernel) rfl (by decide +kernel) (by decide +kernel) ?_
  rintro w ⟨m_thrown2_1, m_trouble2_2, rfl⟩
  refine k_ws [(cAI g a_r 311 d_r), (cAI g a_st 44 d_st), (cAI g a_from 8 d_from), (cAI g a_begin 8 d_begin), (cAI g a_motor 8 d_motor), (cAI g a_change 8 d_change), (cAI g a_startFrame 8 d_startFrame), (cAI g a_changeFrame 8 d_changeFrame), (cAI g a_lostAt 8 d_lostAt), (cAI g a_blackAt 8 d_blackAt), (cAI g a_slips 8 d_slips), (cO11_i1r1i10r1i2r5i2r12i3r4i2 h0 m_thrown2_1 a_tape m_taped m_size m_at m_end m_token m_whole m_nameSize m_fault m_place m_trouble2_2 a_letters m_failed m_hasHouse a_r a_fresh a_st a_undone a_kept m_undos m_images a_from a_begin a_motor a_change a_startFrame a_changeFrame a_lostAt a_blackAt a_slips a_leftArc a_died a_arcs m_bestSum m_nearest m_nearestTown a_there a_backAt a_sorted a_parts m_seed1 m_darkNow)] rfl ?_
  refine k_aload_n X dX11_bestSlip_4 0 rfl ?_
  refine k_iload_n X dX11_bestSlip_5 1 rfl ?_
  refine k_callVI (n := 1) (As := [.int p0]) (st := []) X [(cO11_i1r1i10r1i2r5i2r12i3r4i2 h0 m_thrown2_1 a_tape m_taped m_size m_at m_end m_token m_whole m_nameSize m_fault m_place m_trouble2_2 a_letters m_failed m_hasHouse a_r a_fresh a_st a_undone a_kept m_undos m_images a_from a_begin a_motor a_change a_startFrame a_changeFrame a_lostAt a_blackAt a_slips a_leftArc a_died a_arcs m_bestSum m_nearest m_nearestTown a_there a_backAt a_sorted a_parts m_seed1 m_darkNow), (cAI g a_r 311 d_r)] [(cAI g a_st 44 d_st), (cAI g a_from 8 d_from), (cAI g a_begin 8 d_begin), (cAI g a_motor 8 d_motor), (cAI g a_change 8 d_change), (cAI g a_startFrame 8 d_startFrame), (cAI g a_changeFrame 8 d_changeFrame), (cAI g a_lostAt 8 d_lostAt), (cAI g a_blackAt 8 d_blackAt), (cAI g a_slips 8 d_slips)] [11, 0] [1, 2, 3, 4, 5, 6, 7, 8, 9, 10] (m_isMan l g h0 p0 m_thrown2_1 a_tape m_taped m_size m_at m_end m_token m_whole m_nameSize m_fault m_place m_trouble2_2 a_letters m_failed m_hasHouse a_r a_fresh a_st a_undone a_kept m_undos m_images a_from a_begin a_motor a_change a_startFrame a_changeFrame a_lostAt a_blackAt a_slips a_leftArc a_died a_arcs m_bestSum m_nearest m_nearestTown a_there a_backAt a_sorted a_parts m_seed1 m_darkNow d_r (iv_w hv_m_hasHouse (by decide) (by decide)) hp_d_r) dX11_bestSlip_6 mw811 mw812 mw813 mw5 mw814 rfl 11 rfl rfl 0 _ rfl yk_yX11_isMan_1 rfl (Nat.le_of_ble_eq_true rfl) (Nat.le_of_ble_eq_true rfl) (Nat.le_of_ble_eq_true rfl) (Nat.le_of_ble_eq_true rfl) (Nat.le_of_ble_eq_true rfl) rfl rfl (by decide +kernel) rfl (by decide +kernel) (by decide +kernel) ?_
  rintro r_4 w ⟨iv_5, hk_6, rfl⟩
  refine k_ws [(cAI g a_st 44 d_st), (cAI g a_from 8 d_from), (cAI g a_begin 8 d_begin), (cAI g a_motor 8 d_motor), (cAI g a_change 8 d_change), (cAI g a_startFrame 8 d_startFrame), (cAI g a_changeFrame 8 d_changeFrame), (cAI g a_lostAt 8 d_lostAt), (cAI g a_blackAt 8 d_blackAt), (cAI g a_slips 8 d_slips), (cO11_i1r1i10r1i2r5i2r12i3r4i2 h0 m_thrown2_1 a_tape m_taped m_size m_at m_end m_token m_whole m_nameSize m_fault m_place m_trouble2_2 a_letters m_failed m_hasHouse a_r a_fresh a_st a_undone a_kept m_undos m_images a_from a_begin a_motor a_change a_startFrame a_changeFrame a_lostAt a_blackAt a_slips a_leftArc a_died a_arcs m_bestSum m_nearest m_nearestTown a_there a_backAt a_sorted a_parts m_seed1 m_darkNow), (cAI g a_r 311 d_r)] rfl ?_
  refine k_if_eq 20 X dX11_bestSlip_9 (by decide) (fun h_7 => ?_) (fun h_7 => ?_)
  · skip
    have iv_8 : IV r_4 0 0 := iv_meet iv_5 (iv_e h_7 (show IV 0 0 0 from (by decide))) (by decide) (by decide)
    refine k_aload_n X dX11_bestSlip_20 0 rfl ?_
    refine k_iconst (v := 1) X dX11_bestSlip_21 (by decide) ?_
    refine k_callVI (n := 1) (As := [.int 1]) (st := []) X [(cO11_i1r1i10r1i2r5i2r12i3r4i2 h0 m_thrown2_1 a_tape m_taped m_size m_at m_end m_token m_whole m_nameSize m_fault m_place m_trouble2_2 a_letters m_failed m_hasHouse a_r a_fresh a_st a_undone a_kept m_undos m_images a_from a_begin a_motor a_change a_startFrame a_changeFrame a_lostAt a_blackAt a_slips a_leftArc a_died a_arcs m_bestSum m_nearest m_nearestTown a_there a_backAt a_sorted a_parts m_seed1 m_darkNow)] [(cAI g a_st 44 d_st), (cAI g a_from 8 d_from), (cAI g a_begin 8 d_begin), (cAI g a_motor 8 d_motor), (cAI g a_change 8 d_change), (cAI g a_startFrame 8 d_startFrame), (cAI g a_changeFrame 8 d_changeFrame), (cAI g a_lostAt 8 d_lostAt), (cAI g a_blackAt 8 d_blackAt), (cAI g a_slips 8 d_slips), (cAI g a_r 311 d_r)] [10] [0, 1, 2, 3, 4, 5, 6, 7, 8, 9, 11] (m_no l g h0 1 m_thrown2_1 a_tape m_taped m_size m_at m_end m_token m_whole m_nameSize m_fault m_place m_trouble2_2 a_letters m_failed m_hasHouse a_r a_fresh a_st a_undone a_kept m_undos m_images a_from a_begin a_motor a_change a_startFrame a_changeFrame a_lostAt a_blackAt a_slips a_leftArc a_died a_arcs m_bestSum m_nearest m_nearestTown a_there a_backAt a_sorted a_parts m_seed1 m_darkNow) dX11_bestSlip_22 mw485 mw486 mw487 mw5 mw488 rfl 11 rfl rfl 0 _ rfl yk_yX11_no_1 rfl (Nat.le_of_ble_eq_true rfl) (Nat.le_of_ble_eq_true rfl) (Nat.le_of_ble_eq_true rfl) (Nat.le_of_ble_eq_true rfl) (Nat.le_of_ble_eq_true rfl) rfl rfl (by decide +kernel) rfl (by decide +kernel) (by decide +kernel) ?_
    rintro r_10 w ⟨m_trouble2_9, iv_11, rfl⟩
    refine k_ws [(cAI g a_st 44 d_st), (cAI g a_from 8 d_from), (cAI g a_begin 8 d_begin), (cAI g a_motor 8 d_motor), (cAI g a_change 8 d_change), (cAI g a_startFrame 8 d_startFrame), (cAI g a_changeFrame 8 d_changeFrame), (cAI g a_lostAt 8 d_lostAt), (cAI g a_blackAt 8 d_blackAt), (cAI g a_slips 8 d_slips), (cAI g a_r 311 d_r), (cO11_i1r1i10r1i2r5i2r12i3r4i2 h0 m_thrown2_1 a_tape m_taped m_size m_at m_end m_token m_whole m_nameSize m_fault m_place m_trouble2_9 a_letters m_failed m_hasHouse a_r a_fresh a_st a_undone a_kept m_undos m_images a_from a_begin a_motor a_change a_startFrame a_changeFrame a_lostAt a_blackAt a_slips a_leftArc a_died a_arcs m_bestSum m_nearest m_nearestTown a_there a_backAt a_sorted a_parts m_seed1 m_darkNow)] rfl ?_
    exact k_iret X hr dX11_bestSlip_25 (Nat.le_of_ble_eq_true rfl) (Nat.le_of_ble_eq_true rfl) [11, 10, 0, 1, 2, 3, 4, 5, 6, 7, 8, 9] (by decide) rfl rfl ⟨d_begin, m_bestSum, d_blackAt, d_change, d_changeFrame, d_from, d_lostAt, d_motor, d_slips, d_startFrame, m_thrown2_1, m_trouble2_9, rfl⟩
  · skip
    have hc_12 := hk_6.resolve_left h_7
    have iv_13 : IV p0 0 3 := iv_meet (iv_any p0) hc_12 (by decide) (by decide)
    have iv_14 : IV r_4 1 1 := iv_neL h_7 iv_5 (show IV 0 0 0 from (by decide)) (by decide)
    refine k_aload_n X dX11_bestSlip_12 0 rfl ?_
    refine k_iload_n X dX11_bestSlip_13 1 rfl ?_
    refine k_callVI (n := 1) (As := [.int p0]) (st := []) X [(cO11_i1r1i10r1i2r5i2r12i3r4i2 h0 m_thrown2_1 a_tape m_taped m_size m_at m_end m_token m_whole m_nameSize m_fault m_place m_trouble2_2 a_letters m_failed m_hasHouse a_r a_fresh a_st a_undone a_kept m_undos m_images a_from a_begin a_motor a_change a_startFrame a_changeFrame a_lostAt a_blackAt a_slips a_leftArc a_died a_arcs m_bestSum m_nearest m_nearestTown a_there a_backAt a_sorted a_parts m_seed1 m_darkNow), (cAI g a_r 311 d_r), (cAI g a_st 44 d_st), (cAI g a_from 8 d_from), (cAI g a_begin 8 d_begin), (cAI g a_motor 8 d_motor), (cAI g a_change 8 d_change), (cAI g a_startFrame 8 d_startFrame), (cAI g a_changeFrame 8 d_changeFrame), (cAI g a_lostAt 8 d_lostAt), (cAI g a_blackAt 8 d_blackAt), (cAI g a_slips 8 d_slips)] [] [10, 11, 0, 1, 2, 3, 4, 5, 6, 7, 8, 9] [] (m_bestSlipOf l g h0 p0 m_thrown2_1 a_tape m_taped m_size m_at m_end m_token m_whole m_nameSize m_fault m_place m_trouble2_2 a_letters m_failed m_hasHouse a_r a_fresh a_st a_undone a_kept m_undos m_images a_from a_begin a_motor a_change a_startFrame a_changeFrame a_lostAt a_blackAt a_slips a_leftArc a_died a_arcs m_bestSum m_nearest m_nearestTown a_there a_backAt a_sorted a_parts m_seed1 m_darkNow d_r d_st d_from d_begin d_motor d_change d_startFrame d_changeFrame d_lostAt d_blackAt d_slips (iv_w iv_13 (by decide) (by decide)) hp_d_r) dX11_bestSlip_14 mw997 mw998 mw999 mw5 mw1000 rfl 11 rfl rfl 0 _ rfl yk_yX11_bestSlipOf_1 rfl (Nat.le_of_ble_eq_true rfl) (Nat.le_of_ble_eq_true rfl) (Nat.le_of_ble_eq_true rfl) (Nat.le_of_ble_eq_true rfl) (Nat.le_of_ble_eq_true rfl) rfl rfl (by decide +kernel) rfl (by decide +kernel) (by decide +kernel) ?_
    intro r_25 w zq
    refine exL10 zq ?_
    clear zq
    intro d_begin2_15 m_bestSum2_16 d_blackAt2_17 d_change2_18 d_changeFrame2_19 d_from2_20 d_lostAt2_21 d_motor2_22 d_slips2_23 d_startFrame2_24 zq
    subst zq
    refine k_ws [(cO11_i1r1i10r1i2r5i2r12i3r4i2 h0 m_thrown2_1 a_tape m_taped m_size m_at m_end m_token m_whole m_nameSize m_fault m_place m_trouble2_2 a_letters m_failed m_hasHouse a_r a_fresh a_st a_undone a_kept m_undos m_images a_from a_begin a_motor a_change a_startFrame a_changeFrame a_lostAt a_blackAt a_slips a_leftArc a_died a_arcs m_bestSum2_16 m_nearest m_nearestTown a_there a_backAt a_sorted a_parts m_seed1 m_darkNow), (cAI g a_r 311 d_r), (cAI g a_st 44 d_st), (cAI g a_from 8 d_from2_20), (cAI g a_begin 8 d_begin2_15), (cAI g a_motor 8 d_motor2_22), (cAI g a_change 8 d_change2_18), (cAI g a_startFrame 8 d_startFrame2_24), (cAI g a_changeFrame 8 d_changeFrame2_19), (cAI g a_lostAt 8 d_lostAt2_21), (cAI g a_blackAt 8 d_blackAt2_17), (cAI g a_slips 8 d_slips2_23)] rfl ?_
    refine k_goto 25 X dX11_bestSlip_17 (by decide) ?_
    exact k_iret X hr dX11_bestSlip_25 (Nat.le_of_ble_eq_true rfl) (Nat.le_of_ble_eq_true rfl) [0, 1, 2, 3, 4, 5, 6, 7, 8, 9, 10, 11] (by decide) rfl rfl ⟨d_begin2_15, m_bestSum2_16, d_blackAt2_17, d_change2_18, d_changeFrame2_19, d_from2_20, d_lostAt2_21, d_motor2_22, d_slips2_23, d_startFrame2_24, m_thrown2_1, m_trouble2_2, rfl⟩

theorem dX11_bySlip_0 : decode cX11_bySlip 0 = .ok (.aload_n 0, 1) := dk_42 rfl
theorem dX11_bySlip_1 : decode cX11_bySlip 1 = .ok (.invokevirtual 200, 3) := dk_182 rfl rfl rfl rfl
theorem dX11_bySlip_4 : decode cX11_bySlip 4 = .ok (.aload_n 0, 1) := dk_42 rfl
theorem dX11_bySlip_5 : decode cX11_bySlip 5 = .ok (.iload_n 1, 1) := dk_27 rfl
theorem dX11_bySlip_6 : decode cX11_bySlip 6 = .ok (.invokevirtual 370, 3) := dk_182 rfl rfl rfl rfl
theorem dX11_bySlip_9 : decode cX11_bySlip 9 = .ok (.ifCond .ne 9, 3) := dk_154 rfl rfl rfl (by decide)
theorem dX11_bySlip_12 : decode cX11_bySlip 12 = .ok (.aload_n 0, 1) := dk_42 rfl
theorem dX11_bySlip_13 : decode cX11_bySlip 13 = .ok (.iconst 1, 1) := dk_4 rfl
theorem dX11_bySlip_14 : decode cX11_bySlip 14 = .ok (.invokevirtual 203, 3) := dk_182 rfl rfl rfl rfl
theorem dX11_bySlip_17 : decode cX11_bySlip 17 = .ok (.ireturn, 1) := dk_172 rfl
theorem dX11_bySlip_18 : decode cX11_bySlip 18 = .ok (.aload_n 0, 1) := dk_42 rfl
theorem dX11_bySlip_19 : decode cX11_bySlip 19 = .ok (.iload_n 1, 1) := dk_27 rfl
theorem dX11_bySlip_20 : decode cX11_bySlip 20 = .ok (.invokevirtual 428, 3) := dk_182 rfl rfl rfl rfl
theorem dX11_bySlip_23 : decode cX11_bySlip 23 = .ok (.pop, 1) := dk_87 rfl
theorem dX11_bySlip_24 : decode cX11_bySlip 24 = .ok (.aload_n 0, 1) := dk_42 rfl
theorem dX11_bySlip_25 : decode cX11_bySlip 25 = .ok (.getfield 425, 3) := dk_180 rfl rfl rfl rfl
theorem dX11_bySlip_28 : decode cX11_bySlip 28 = .ok (.ireturn, 1) := dk_172 rfl
set_option maxHeartbeats 4000000 in
set_option maxRecDepth 100000 in
theorem m_bySlip (l : Launch) (g : Gx) (h0 : Nat) (p0 : Int32) (m_thrown : Int32) (a_tape : Nat) (m_taped : Int32) (m_size : Int32) (m_at : Int32) (m_end : Int32) (m_token : Int32) (m_whole : Int32) (m_nameSize : Int32) (m_fault : Int32) (m_place : Int32) (m_trouble : Int32) (a_letters : Nat) (m_failed : Int32) (m_hasHouse : Int32) (a_r : Nat) (a_fresh : Nat) (a_st : Nat) (a_undone : Nat) (a_kept : Nat) (m_undos : Int32) (m_images : Int32) (a_from : Nat) (a_begin : Nat) (a_motor : Nat) (a_change : Nat) (a_startFrame : Nat) (a_changeFrame : Nat) (a_lostAt : Nat) (a_blackAt : Nat) (a_slips : Nat) (a_leftArc : Nat) (a_died : Nat) (a_arcs : Nat) (m_bestSum : Int32) (m_nearest : Int32) (m_nearestTown : Int32) (a_there : Nat) (a_backAt : Nat) (a_sorted : Nat) (a_parts : Nat) (m_seed1 : Int32) (m_darkNow : Int32) (d_r : Nat → Int32) (d_st : Nat → Int32) (d_from : Nat → Int32) (d_begin : Nat → Int32) (d_motor : Nat → Int32) (d_change : Nat → Int32) (d_startFrame : Nat → Int32) (d_changeFrame : Nat → Int32) (d_lostAt : Nat → Int32) (d_blackAt : Nat → Int32) (d_slips : Nat → Int32) (hv_m_hasHouse : IV m_hasHouse 0 1) (hp_d_r : RInv d_r) : cI l g yX11_bySlip cX11_bySlip 2 (some .int) 6 131 0 0 [.ref h0, .int p0] [(cO11_i1r1i10r1i2r5i2r12i3r4i2 h0 m_thrown a_tape m_taped m_size m_at m_end m_token m_whole m_nameSize m_fault m_place m_trouble a_letters m_failed m_hasHouse a_r a_fresh a_st a_undone a_kept m_undos m_images a_from a_begin a_motor a_change a_startFrame a_changeFrame a_lostAt a_blackAt a_slips a_leftArc a_died a_arcs m_bestSum m_nearest m_nearestTown a_there a_backAt a_sorted a_parts m_seed1 m_darkNow), (cAI g a_r 311 d_r), (cAI g a_st 44 d_st), (cAI g a_from 8 d_from), (cAI g a_begin 8 d_begin), (cAI g a_motor 8 d_motor), (cAI g a_change 8 d_change), (cAI g a_startFrame 8 d_startFrame), (cAI g a_changeFrame 8 d_changeFrame), (cAI g a_lostAt 8 d_lostAt), (cAI g a_blackAt 8 d_blackAt), (cAI g a_slips 8 d_slips)] (fun r w => ∃ (d_begin2 : Nat → Int32) (m_bestSum2 : Int32) (d_blackAt2 : Nat → Int32) (d_change2 : Nat → Int32) (d_changeFrame2 : Nat → Int32) (d_from2 : Nat → Int32) (d_lostAt2 : Nat → Int32) (d_motor2 : Nat → Int32) (d_slips2 : Nat → Int32) (d_startFrame2 : Nat → Int32) (m_thrown2 : Int32) (m_trouble2 : Int32), w = [(cO11_i1r1i10r1i2r5i2r12i3r4i2 h0 m_thrown2 a_tape m_taped m_size m_at m_end m_token m_whole m_nameSize m_fault m_place m_trouble2 a_letters m_failed m_hasHouse a_r a_fresh a_st a_undone a_kept m_undos m_images a_from a_begin a_motor a_change a_startFrame a_changeFrame a_lostAt a_blackAt a_slips a_leftArc a_died a_arcs m_bestSum2 m_nearest m_nearestTown a_there a_backAt a_sorted a_parts m_seed1 m_darkNow), (cAI g a_r 311 d_r), (cAI g a_st 44 d_st), (cAI g a_from 8 d_from2), (cAI g a_begin 8 d_begin2), (cAI g a_motor 8 d_motor2), (cAI g a_change 8 d_change2), (cAI g a_startFrame 8 d_startFrame2), (cAI g a_changeFrame 8 d_changeFrame2), (cAI g a_lostAt 8 d_lostAt2), (cAI g a_blackAt 8 d_blackAt2), (cAI g a_slips 8 d_slips2)]) := by
  refine cI.of (by decide) (Nat.le_of_ble_eq_true rfl) ?_
  intro p e s m args below meth c A X hr hi
  refine k_lveq [(0, .ref h0), (1, .int p0)] rfl ?_
  refine k_aload_n X dX11_bySlip_0 0 rfl ?_
  refine k_callVV (n := 0) (As := []) (st := []) X [(cO11_i1r1i10r1i2r5i2r12i3r4i2 h0 m_thrown a_tape m_taped m_size m_at m_end m_token m_whole m_nameSize m_fault m_place m_trouble a_letters m_failed m_hasHouse a_r a_fresh a_st a_undone a_kept m_undos m_images a_from a_begin a_motor a_change a_startFrame a_changeFrame a_lostAt a_blackAt a_slips a_leftArc a_died a_arcs m_bestSum m_nearest m_nearestTown a_there a_backAt a_sorted a_parts m_seed1 m_darkNow)] [(cAI g a_r 311 d_r), (cAI g a_st 44 d_st), (cAI g a_from 8 d_from), (cAI g a_begin 8 d_begin), (cAI g a_motor 8 d_motor), (cAI g a_change 8 d_change), (cAI g a_startFrame 8 d_startFrame), (cAI g a_changeFrame 8 d_changeFrame), (cAI g a_lostAt 8 d_lostAt), (cAI g a_blackAt 8 d_blackAt), (cAI g a_slips 8 d_slips)] [0] [1, 2, 3, 4, 5, 6, 7, 8, 9, 10, 11] (m_good l g h0 m_thrown a_tape m_taped m_size m_at m_end m_token m_whole m_nameSize m_fault m_place m_trouble a_letters m_failed m_hasHouse a_r a_fresh a_st a_undone a_kept m_undos m_images a_from a_begin a_motor a_change a_startFrame a_changeFrame a_lostAt a_blackAt a_slips a_leftArc a_died a_arcs m_bestSum m_nearest m_nearestTown a_there a_backAt a_sorted a_parts m_seed1 m_darkNow) dX11_bySlip_1 mw477 mw478 mw479 mw5 mw480 rfl 11 rfl rfl 0 _ rfl yk_yX11_good_0 rfl (Nat.le_of_ble_eq_true rfl) (Nat.le_of_ble_eq_true rfl) (Nat.le_of_ble_eq_true rfl) (Nat.le_of_ble_eq_true rfl) (Nat.le_of_ble_eq_true rfl) rfl rfl (by decide +kernel) rfl (by decide +kernel) (by decide +kernel) ?_
  rintro w ⟨m_thrown2_1, m_trouble2_2, rfl⟩
  refine k_ws [(cAI g a_r 311 d_r), (cAI g a_st 44 d_st), (cAI g a_from 8 d_from), (cAI g a_begin 8 d_begin), (cAI g a_motor 8 d_motor), (cAI g a_change 8 d_change), (cAI g a_startFrame 8 d_startFrame), (cAI g a_changeFrame 8 d_changeFrame), (cAI g a_lostAt 8 d_lostAt), (cAI g a_blackAt 8 d_blackAt), (cAI g a_slips 8 d_slips), (cO11_i1r1i10r1i2r5i2r12i3r4i2 h0 m_thrown2_1 a_tape m_taped m_size m_at m_end m_token m_whole m_nameSize m_fault m_place m_trouble2_2 a_letters m_failed m_hasHouse a_r a_fresh a_st a_undone a_kept m_undos m_images a_from a_begin a_motor a_change a_startFrame a_changeFrame a_lostAt a_blackAt a_slips a_leftArc a_died a_arcs m_bestSum m_nearest m_nearestTown a_there a_backAt a_sorted a_parts m_seed1 m_darkNow)] rfl ?_
  refine k_aload_n X dX11_bySlip_4 0 rfl ?_
  refine k_iload_n X dX11_bySlip_5 1 rfl ?_
  refine k_callVI (n := 1) (As := [.int p0]) (st := []) X [(cO11_i1r1i10r1i2r5i2r12i3r4i2 h0 m_thrown2_1 a_tape m_taped m_size m_at m_end m_token m_whole m_nameSize m_fault m_place m_trouble2_2 a_letters m_failed m_hasHouse a_r a_fresh a_st a_undone a_kept m_undos m_images a_from a_begin a_motor a_change a_startFrame a_changeFrame a_lostAt a_blackAt a_slips a_leftArc a_died a_arcs m_bestSum m_nearest m_nearestTown a_there a_backAt a_sorted a_parts m_seed1 m_darkNow), (cAI g a_r 311 d_r)] [(cAI g a_st 44 d_st), (cAI g a_from 8 d_from), (cAI g a_begin 8 d_begin), (cAI g a_motor 8 d_motor), (cAI g a_change 8 d_change), (cAI g a_startFrame 8 d_startFrame), (cAI g a_changeFrame 8 d_changeFrame), (cAI g a_lostAt 8 d_lostAt), (cAI g a_blackAt 8 d_blackAt), (cAI g a_slips 8 d_slips)] [11, 0] [1, 2, 3, 4, 5, 6, 7, 8, 9, 10] (m_isMan l g h0 p0 m_thrown2_1 a_tape m_taped m_size m_at m_end m_token m_whole m_nameSize m_fault m_place m_trouble2_2 a_letters m_failed m_hasHouse a_r a_fresh a_st a_undone a_kept m_undos m_images a_from a_begin a_motor a_change a_startFrame a_changeFrame a_lostAt a_blackAt a_slips a_leftArc a_died a_arcs m_bestSum m_nearest m_nearestTown a_there a_backAt a_sorted a_parts m_seed1 m_darkNow d_r (iv_w hv_m_hasHouse (by decide) (by decide)) hp_d_r) dX11_bySlip_6 mw811 mw812 mw813 mw5 mw814 rfl 11 rfl rfl 0 _ rfl yk_yX11_isMan_1 rfl (Nat.le_of_ble_eq_true rfl) (Nat.le_of_ble_eq_true rfl) (Nat.le_of_ble_eq_true rfl) (Nat.le_of_ble_eq_true rfl) (Nat.le_of_ble_eq_true rfl) rfl rfl (by decide +kernel) rfl (by decide +kernel) (by decide +kernel) ?_
  rintro r_4 w ⟨iv_5, hk_6, rfl⟩
  refine k_ws [(cAI g a_st 44 d_st), (cAI g a_from 8 d_from), (cAI g a_begin 8 d_begin), (cAI g a_motor 8 d_motor), (cAI g a_change 8 d_change), (cAI g a_startFrame 8 d_startFrame), (cAI g a_changeFrame 8 d_changeFrame), (cAI g a_lostAt 8 d_lostAt), (cAI g a_blackAt 8 d_blackAt), (cAI g a_slips 8 d_slips), (cO11_i1r1i10r1i2r5i2r12i3r4i2 h0 m_thrown2_1 a_tape m_taped m_size m_at m_end m_token m_whole m_nameSize m_fault m_place m_trouble2_2 a_letters m_failed m_hasHouse a_r a_fresh a_st a_undone a_kept m_undos m_images a_from a_begin a_motor a_change a_startFrame a_changeFrame a_lostAt a_blackAt a_slips a_leftArc a_died a_arcs m_bestSum m_nearest m_nearestTown a_there a_backAt a_sorted a_parts m_seed1 m_darkNow), (cAI g a_r 311 d_r)] rfl ?_
  refine k_if_ne 18 X dX11_bySlip_9 (by decide) (fun h_7 => ?_) (fun h_7 => ?_)
  · skip
    have hc_8 := hk_6.resolve_left h_7
    have iv_9 : IV p0 0 3 := iv_meet (iv_any p0) hc_8 (by decide) (by decide)
    have iv_10 : IV r_4 1 1 := iv_neL h_7 iv_5 (show IV 0 0 0 from (by decide)) (by decide)
    refine k_aload_n X dX11_bySlip_18 0 rfl ?_
    refine k_iload_n X dX11_bySlip_19 1 rfl ?_
    refine k_callVI (n := 1) (As := [.int p0]) (st := []) X [(cO11_i1r1i10r1i2r5i2r12i3r4i2 h0 m_thrown2_1 a_tape m_taped m_size m_at m_end m_token m_whole m_nameSize m_fault m_place m_trouble2_2 a_letters m_failed m_hasHouse a_r a_fresh a_st a_undone a_kept m_undos m_images a_from a_begin a_motor a_change a_startFrame a_changeFrame a_lostAt a_blackAt a_slips a_leftArc a_died a_arcs m_bestSum m_nearest m_nearestTown a_there a_backAt a_sorted a_parts m_seed1 m_darkNow), (cAI g a_r 311 d_r), (cAI g a_st 44 d_st), (cAI g a_from 8 d_from), (cAI g a_begin 8 d_begin), (cAI g a_motor 8 d_motor), (cAI g a_change 8 d_change), (cAI g a_startFrame 8 d_startFrame), (cAI g a_changeFrame 8 d_changeFrame), (cAI g a_lostAt 8 d_lostAt), (cAI g a_blackAt 8 d_blackAt), (cAI g a_slips 8 d_slips)] [] [10, 11, 0, 1, 2, 3, 4, 5, 6, 7, 8, 9] [] (m_bestSlipOf l g h0 p0 m_thrown2_1 a_tape m_taped m_size m_at m_end m_token m_whole m_nameSize m_fault m_place m_trouble2_2 a_letters m_failed m_hasHouse a_r a_fresh a_st a_undone a_kept m_undos m_images a_from a_begin a_motor a_change a_startFrame a_changeFrame a_lostAt a_blackAt a_slips a_leftArc a_died a_arcs m_bestSum m_nearest m_nearestTown a_there a_backAt a_sorted a_parts m_seed1 m_darkNow d_r d_st d_from d_begin d_motor d_change d_startFrame d_changeFrame d_lostAt d_blackAt d_slips (iv_w iv_9 (by decide) (by decide)) hp_d_r) dX11_bySlip_20 mw997 mw998 mw999 mw5 mw1000 rfl 11 rfl rfl 0 _ rfl yk_yX11_bestSlipOf_1 rfl (Nat.le_of_ble_eq_true rfl) (Nat.le_of_ble_eq_true rfl) (Nat.le_of_ble_eq_true rfl) (Nat.le_of_ble_eq_true rfl) (Nat.le_of_ble_eq_true rfl) rfl rfl (by decide +kernel) rfl (by decide +kernel) (by decide +kernel) ?_
    intro r_21 w zq
    refine exL10 zq ?_
    clear zq
    intro d_begin2_11 m_bestSum2_12 d_blackAt2_13 d_change2_14 d_changeFrame2_15 d_from2_16 d_lostAt2_17 d_motor2_18 d_slips2_19 d_startFrame2_20 zq
    subst zq
    refine k_ws [(cO11_i1r1i10r1i2r5i2r12i3r4i2 h0 m_thrown2_1 a_tape m_taped m_size m_at m_end m_token m_whole m_nameSize m_fault m_place m_trouble2_2 a_letters m_failed m_hasHouse a_r a_fresh a_st a_undone a_kept m_undos m_images a_from a_begin a_motor a_change a_startFrame a_changeFrame a_lostAt a_blackAt a_slips a_leftArc a_died a_arcs m_bestSum2_12 m_nearest m_nearestTown a_there a_backAt a_sorted a_parts m_seed1 m_darkNow), (cAI g a_r 311 d_r), (cAI g a_st 44 d_st), (cAI g a_from 8 d_from2_16), (cAI g a_begin 8 d_begin2_11), (cAI g a_motor 8 d_motor2_18), (cAI g a_change 8 d_change2_14), (cAI g a_startFrame 8 d_startFrame2_20), (cAI g a_changeFrame 8 d_changeFrame2_15), (cAI g a_lostAt 8 d_lostAt2_17), (cAI g a_blackAt 8 d_blackAt2_13), (cAI g a_slips 8 d_slips2_19)] rfl ?_
    refine k_pop X dX11_bySlip_23 rfl ?_
    refine k_aload_n X dX11_bySlip_24 0 rfl ?_
    refine k_get (ci := 11) X inlX11 rfl 34 (by decide) dX11_bySlip_25 mw1001 0 rfl rfl ?_
    exact k_iret X hr dX11_bySlip_28 (Nat.le_of_ble_eq_true rfl) (Nat.le_of_ble_eq_true rfl) [0, 1, 2, 3, 4, 5, 6, 7, 8, 9, 10, 11] (by decide) rfl rfl ⟨d_begin2_11, m_bestSum2_12, d_blackAt2_13, d_change2_14, d_changeFrame2_15, d_from2_16, d_lostAt2_17, d_motor2_18, d_slips2_19, d_startFrame2_20, m_thrown2_1, m_trouble2_2, rfl⟩
  · skip
    have iv_22 : IV r_4 0 0 := iv_meet iv_5 (iv_e h_7 (show IV 0 0 0 from (by decide))) (by decide) (by decide)
    refine k_aload_n X dX11_bySlip_12 0 rfl ?_
    refine k_iconst (v := 1) X dX11_bySlip_13 (by decide) ?_
    refine k_callVI (n := 1) (As := [.int 1]) (st := []) X [(cO11_i1r1i10r1i2r5i2r12i3r4i2 h0 m_thrown2_1 a_tape m_taped m_size m_at m_end m_token m_whole m_nameSize m_fault m_place m_trouble2_2 a_letters m_failed m_hasHouse a_r a_fresh a_st a_undone a_kept m_undos m_images a_from a_begin a_motor a_change a_startFrame a_changeFrame a_lostAt a_blackAt a_slips a_leftArc a_died a_arcs m_bestSum m_nearest m_nearestTown a_there a_backAt a_sorted a_parts m_seed1 m_darkNow)] [(cAI g a_st 44 d_st), (cAI g a_from 8 d_from), (cAI g a_begin 8 d_begin), (cAI g a_motor 8 d_motor), (cAI g a_change 8 d_change), (cAI g a_startFrame 8 d_startFrame), (cAI g a_changeFrame 8 d_changeFrame), (cAI g a_lostAt 8 d_lostAt), (cAI g a_blackAt 8 d_blackAt), (cAI g a_slips 8 d_slips), (cAI g a_r 311 d_r)] [10] [0, 1, 2, 3, 4, 5, 6, 7, 8, 9, 11] (m_no l g h0 1 m_thrown2_1 a_tape m_taped m_size m_at m_end m_token m_whole m_nameSize m_fault m_place m_trouble2_2 a_letters m_failed m_hasHouse a_r a_fresh a_st a_undone a_kept m_undos m_images a_from a_begin a_motor a_change a_startFrame a_changeFrame a_lostAt a_blackAt a_slips a_leftArc a_died a_arcs m_bestSum m_nearest m_nearestTown a_there a_backAt a_sorted a_parts m_seed1 m_darkNow) dX11_bySlip_14 mw485 mw486 mw487 mw5 mw488 rfl 11 rfl rfl 0 _ rfl yk_yX11_no_1 rfl (Nat.le_of_ble_eq_true rfl) (Nat.le_of_ble_eq_true rfl) (Nat.le_of_ble_eq_true rfl) (Nat.le_of_ble_eq_true rfl) (Nat.le_of_ble_eq_true rfl) rfl rfl (by decide +kernel) rfl (by decide +kernel) (by decide +kernel) ?_
    rintro r_24 w ⟨m_trouble2_23, iv_25, rfl⟩
    refine k_ws [(cAI g a_st 44 d_st), (cAI g a_from 8 d_from), (cAI g a_begin 8 d_begin), (cAI g a_motor 8 d_motor), (cAI g a_change 8 d_change), (cAI g a_startFrame 8 d_startFrame), (cAI g a_changeFrame 8 d_changeFrame), (cAI g a_lostAt 8 d_lostAt), (cAI g a_blackAt 8 d_blackAt), (cAI g a_slips 8 d_slips), (cAI g a_r 311 d_r), (cO11_i1r1i10r1i2r5i2r12i3r4i2 h0 m_thrown2_1 a_tape m_taped m_size m_at m_end m_token m_whole m_nameSize m_fault m_place m_trouble2_23 a_letters m_failed m_hasHouse a_r a_fresh a_st a_undone a_kept m_undos m_images a_from a_begin a_motor a_change a_startFrame a_changeFrame a_lostAt a_blackAt a_slips a_leftArc a_died a_arcs m_bestSum m_nearest m_nearestTown a_there a_backAt a_sorted a_parts m_seed1 m_darkNow)] rfl ?_
    exact k_iret X hr dX11_bySlip_17 (Nat.le_of_ble_eq_true rfl) (Nat.le_of_ble_eq_true rfl) [11, 10, 0, 1, 2, 3, 4, 5, 6, 7, 8, 9] (by decide) rfl rfl ⟨d_begin, m_bestSum, d_blackAt, d_change, d_changeFrame, d_from, d_lostAt, d_motor, d_slips, d_startFrame, m_thrown2_1, m_trouble2_23, rfl⟩

theorem dX11_farOf_0 : decode cX11_farOf 0 = .ok (.aload_n 0, 1) := dk_42 rfl
theorem dX11_farOf_1 : decode cX11_farOf 1 = .ok (.getfield 20, 3) := dk_180 rfl rfl rfl rfl
theorem dX11_farOf_4 : decode cX11_farOf 4 = .ok (.sipush 155, 3) := dk_17 rfl rfl rfl (by decide)
theorem dX11_farOf_7 : decode cX11_farOf 7 = .ok (.iconst 2, 1) := dk_5 rfl
theorem dX11_farOf_8 : decode cX11_farOf 8 = .ok (.iload_n 1, 1) := dk_27 rfl
theorem dX11_farOf_9 : decode cX11_farOf 9 = .ok (.imul, 1) := dk_104 rfl
theorem dX11_farOf_10 : decode cX11_farOf 10 = .ok (.iadd, 1) := dk_96 rfl
theorem dX11_farOf_11 : decode cX11_farOf 11 = .ok (.iaload, 1) := dk_46 rfl
theorem dX11_farOf_12 : decode cX11_farOf 12 = .ok (.istore_n 3, 1) := dk_62 rfl
theorem dX11_farOf_13 : decode cX11_farOf 13 = .ok (.aload_n 0, 1) := dk_42 rfl
theorem dX11_farOf_14 : decode cX11_farOf 14 = .ok (.getfield 20, 3) := dk_180 rfl rfl rfl rfl
theorem dX11_farOf_17 : decode cX11_farOf 17 = .ok (.sipush 155, 3) := dk_17 rfl rfl rfl (by decide)
theorem dX11_farOf_20 : decode cX11_farOf 20 = .ok (.iconst 2, 1) := dk_5 rfl
theorem dX11_farOf_21 : decode cX11_farOf 21 = .ok (.iload_n 1, 1) := dk_27 rfl
theorem dX11_farOf_22 : decode cX11_farOf 22 = .ok (.imul, 1) := dk_104 rfl
theorem dX11_farOf_23 : decode cX11_farOf 23 = .ok (.iadd, 1) := dk_96 rfl
theorem dX11_farOf_24 : decode cX11_farOf 24 = .ok (.iconst 1, 1) := dk_4 rfl
theorem dX11_farOf_25 : decode cX11_farOf 25 = .ok (.iadd, 1) := dk_96 rfl
theorem dX11_farOf_26 : decode cX11_farOf 26 = .ok (.iaload, 1) := dk_46 rfl
theorem dX11_farOf_27 : decode cX11_farOf 27 = .ok (.aload_n 0, 1) := dk_42 rfl
theorem dX11_farOf_28 : decode cX11_farOf 28 = .ok (.getfield 26, 3) := dk_180 rfl rfl rfl rfl
theorem dX11_farOf_31 : decode cX11_farOf 31 = .ok (.bipush 8, 2) := dk_16 rfl rfl (by decide)
theorem dX11_farOf_33 : decode cX11_farOf 33 = .ok (.iload_n 3, 1) := dk_29 rfl
theorem dX11_farOf_34 : decode cX11_farOf 34 = .ok (.iadd, 1) := dk_96 rfl
theorem dX11_farOf_35 : decode cX11_farOf 35 = .ok (.iaload, 1) := dk_46 rfl
theorem dX11_farOf_36 : decode cX11_farOf 36 = .ok (.isub, 1) := dk_100 rfl
theorem dX11_farOf_37 : decode cX11_farOf 37 = .ok (.istore 4, 2) := dk_54 rfl rfl rfl
theorem dX11_farOf_39 : decode cX11_farOf 39 = .ok (.iconst (-1), 1) := dk_2 rfl
theorem dX11_farOf_40 : decode cX11_farOf 40 = .ok (.istore 5, 2) := dk_54 rfl rfl rfl
theorem dX11_farOf_42 : decode cX11_farOf 42 = .ok (.iconst 0, 1) := dk_3 rfl
theorem dX11_farOf_43 : decode cX11_farOf 43 = .ok (.istore 6, 2) := dk_54 rfl rfl rfl
theorem dX11_farOf_45 : decode cX11_farOf 45 = .ok (.iload 6, 2) := dk_21 rfl rfl rfl
theorem dX11_farOf_47 : decode cX11_farOf 47 = .ok (.aload_n 0, 1) := dk_42 rfl
theorem dX11_farOf_48 : decode cX11_farOf 48 = .ok (.getfield 20, 3) := dk_180 rfl rfl rfl rfl
theorem dX11_farOf_51 : decode cX11_farOf 51 = .ok (.bipush 8, 2) := dk_16 rfl rfl (by decide)
theorem dX11_farOf_53 : decode cX11_farOf 53 = .ok (.iaload, 1) := dk_46 rfl
theorem dX11_farOf_54 : decode cX11_farOf 54 = .ok (.if_icmp .ge 102, 3) := dk_162 rfl rfl rfl (by decide)
theorem dX11_farOf_57 : decode cX11_farOf 57 = .ok (.aload_n 0, 1) := dk_42 rfl
theorem dX11_farOf_58 : decode cX11_farOf 58 = .ok (.getfield 20, 3) := dk_180 rfl rfl rfl rfl
theorem dX11_farOf_61 : decode cX11_farOf 61 = .ok (.bipush 44, 2) := dk_16 rfl rfl (by decide)
theorem dX11_farOf_63 : decode cX11_farOf 63 = .ok (.iconst 3, 1) := dk_6 rfl
theorem dX11_farOf_64 : decode cX11_farOf 64 = .ok (.iload 6, 2) := dk_21 rfl rfl rfl
theorem dX11_farOf_66 : decode cX11_farOf 66 = .ok (.imul, 1) := dk_104 rfl
theorem dX11_farOf_67 : decode cX11_farOf 67 = .ok (.iadd, 1) := dk_96 rfl
theorem dX11_farOf_68 : decode cX11_farOf 68 = .ok (.iconst 2, 1) := dk_5 rfl
theorem dX11_farOf_69 : decode cX11_farOf 69 = .ok (.iadd, 1) := dk_96 rfl
theorem dX11_farOf_70 : decode cX11_farOf 70 = .ok (.iaload, 1) := dk_46 rfl
theorem dX11_farOf_71 : decode cX11_farOf 71 = .ok (.iload_n 2, 1) := dk_28 rfl
theorem dX11_farOf_72 : decode cX11_farOf 72 = .ok (.if_icmp .eq 6, 3) := dk_159 rfl rfl rfl (by decide)
theorem dX11_farOf_75 : decode cX11_farOf 75 = .ok (.goto 75, 3) := dk_167 rfl rfl rfl (by decide)
theorem dX11_farOf_78 : decode cX11_farOf 78 = .ok (.aload_n 0, 1) := dk_42 rfl
theorem dX11_farOf_79 : decode cX11_farOf 79 = .ok (.getfield 26, 3) := dk_180 rfl rfl rfl rfl
theorem dX11_farOf_82 : decode cX11_farOf 82 = .ok (.bipush 16, 2) := dk_16 rfl rfl (by decide)
theorem dX11_farOf_84 : decode cX11_farOf 84 = .ok (.iload 6, 2) := dk_21 rfl rfl rfl
theorem dX11_farOf_86 : decode cX11_farOf 86 = .ok (.iadd, 1) := dk_96 rfl
theorem dX11_farOf_87 : decode cX11_farOf 87 = .ok (.iaload, 1) := dk_46 rfl
theorem dX11_farOf_88 : decode cX11_farOf 88 = .ok (.aload_n 0, 1) := dk_42 rfl
theorem dX11_farOf_89 : decode cX11_farOf 89 = .ok (.getfield 26, 3) := dk_180 rfl rfl rfl rfl
theorem dX11_farOf_92 : decode cX11_farOf 92 = .ok (.bipush 8, 2) := dk_16 rfl rfl (by decide)
theorem dX11_farOf_94 : decode cX11_farOf 94 = .ok (.aload_n 0, 1) := dk_42 rfl
theorem dX11_farOf_95 : decode cX11_farOf 95 = .ok (.getfield 20, 3) := dk_180 rfl rfl rfl rfl
theorem dX11_farOf_98 : decode cX11_farOf 98 = .ok (.bipush 44, 2) := by decide +kernel
theorem dX11_farOf_100 : decode cX11_farOf 100 = .ok (.iconst 3, 1) := by decide +kernel
theorem dX11_farOf_101 : decode cX11_farOf 101 = .ok (.iload 6, 2) := by decide +kernel
theorem dX11_farOf_103 : decode cX11_farOf 103 = .ok (.imul, 1) := by decide +kernel
theorem dX11_farOf_104 : decode cX11_farOf 104 = .ok (.iadd, 1) := by decide +kernel
theorem dX11_farOf_105 : decode cX11_farOf 105 = .ok (.iaload, 1) := by decide +kernel
theorem dX11_farOf_106 : decode cX11_farOf 106 = .ok (.iadd, 1) := by decide +kernel
theorem dX11_farOf_107 : decode cX11_farOf 107 = .ok (.iaload, 1) := by decide +kernel
theorem dX11_farOf_108 : decode cX11_farOf 108 = .ok (.isub, 1) := by decide +kernel
theorem dX11_farOf_109 : decode cX11_farOf 109 = .ok (.iload 4, 2) := by decide +kernel
theorem dX11_farOf_111 : decode cX11_farOf 111 = .ok (.isub, 1) := by decide +kernel
theorem dX11_farOf_112 : decode cX11_farOf 112 = .ok (.istore 7, 2) := by decide +kernel
theorem dX11_farOf_114 : decode cX11_farOf 114 = .ok (.iload 7, 2) := by decide +kernel
theorem dX11_farOf_116 : decode cX11_farOf 116 = .ok (.ifCond .ge 9, 3) := by decide +kernel
theorem dX11_farOf_119 : decode cX11_farOf 119 = .ok (.iload 7, 2) := by decide +kernel
theorem dX11_farOf_121 : decode cX11_farOf 121 = .ok (.ineg, 1) := by decide +kernel
theorem dX11_farOf_122 : decode cX11_farOf 122 = .ok (.goto 5, 3) := by decide +kernel
theorem dX11_farOf_125 : decode cX11_farOf 125 = .ok (.iload 7, 2) := by decide +kernel
theorem dX11_farOf_127 : decode cX11_farOf 127 = .ok (.istore 7, 2) := by decide +kernel
theorem dX11_farOf_129 : decode cX11_farOf 129 = .ok (.iload 5, 2) := by decide +kernel
theorem dX11_farOf_131 : decode cX11_farOf 131 = .ok (.ifCond .lt 10, 3) := by decide +kernel
theorem dX11_farOf_134 : decode cX11_farOf 134 = .ok (.iload 7, 2) := by decide +kernel
theorem dX11_farOf_136 : decode cX11_farOf 136 = .ok (.iload 5, 2) := by decide +kernel
theorem dX11_farOf_138 : decode cX11_farOf 138 = .ok (.if_icmp .ge 8, 3) := by decide +kernel
theorem dX11_farOf_141 : decode cX11_farOf 141 = .ok (.iload 7, 2) := by decide +kernel
theorem dX11_farOf_143 : decode cX11_farOf 143 = .ok (.goto 5, 3) := by decide +kernel
theorem dX11_farOf_146 : decode cX11_farOf 146 = .ok (.iload 5, 2) := by decide +kernel
theorem dX11_farOf_148 : decode cX11_farOf 148 = .ok (.istore 5, 2) := by decide +kernel
theorem dX11_farOf_150 : decode cX11_farOf 150 = .ok (.iinc 6 1, 3) := by decide +kernel
theorem dX11_farOf_153 : decode cX11_farOf 153 = .ok (.goto (-108), 3) := by decide +kernel
theorem dX11_farOf_156 : decode cX11_farOf 156 = .ok (.iload 5, 2) := by decide +kernel
theorem dX11_farOf_158 : decode cX11_farOf 158 = .ok (.ireturn, 1) := by decide +kernel
set_option maxHeartbeats 4000000 in
set_option maxRecDepth 100000 in
theorem m_farOf (l : Launch) (g : Gx) (h0 : Nat) (p0 : Int32) (p1 : Int32) (m_thrown : Int32) (a_tape : Nat) (m_taped : Int32) (m_size : Int32) (m_at : Int32) (m_end : Int32) (m_token : Int32) (m_whole : Int32) (m_nameSize : Int32) (m_fault : Int32) (m_place : Int32) (m_trouble : Int32) (a_letters : Nat) (m_failed : Int32) (m_hasHouse : Int32) (a_r : Nat) (a_fresh : Nat) (a_st : Nat) (a_undone : Nat) (a_kept : Nat) (m_undos : Int32) (m_images : Int32) (a_from : Nat) (a_begin : Nat) (a_motor : Nat) (a_change : Nat) (a_startFrame : Nat) (a_changeFrame : Nat) (a_lostAt : Nat) (a_blackAt : Nat) (a_slips : Nat) (a_leftArc : Nat) (a_died : Nat) (a_arcs : Nat) (m_bestSum : Int32) (m_nearest : Int32) (m_nearestTown : Int32) (a_there : Nat) (a_backAt : Nat) (a_sorted : Nat) (a_parts : Nat) (m_seed1 : Int32) (m_darkNow : Int32) (d_r : Nat → Int32) (d_st : Nat → Int32) (hv_p0 : IV p0 0 5) (hp_d_r : RInv d_r) : cI l g yX11_farOf cX11_farOf 8 (some .int) 0 0 0 0 [.ref h0, .int p0, .int p1] [(cO11_i1r1i10r1i2r5i2r12i3r4i2 h0 m_thrown a_tape m_taped m_size m_at m_end m_token m_whole m_nameSize m_fault m_place m_trouble a_letters m_failed m_hasHouse a_r a_fresh a_st a_undone a_kept m_undos m_images a_from a_begin a_motor a_change a_startFrame a_changeFrame a_lostAt a_blackAt a_slips a_leftArc a_died a_arcs m_bestSum m_nearest m_nearestTown a_there a_backAt a_sorted a_parts m_seed1 m_darkNow), (cAI g a_r 311 d_r), (cAI g a_st 44 d_st)] (fun r w => w = [(cO11_i1r1i10r1i2r5i2r12i3r4i2 h0 m_thrown a_tape m_taped m_size m_at m_end m_token m_whole m_nameSize m_fault m_place m_trouble a_letters m_failed m_hasHouse a_r a_fresh a_st a_undone a_kept m_undos m_images a_from a_begin a_motor a_change a_startFrame a_changeFrame a_lostAt a_blackAt a_slips a_leftArc a_died a_arcs m_bestSum m_nearest m_nearestTown a_there a_backAt a_sorted a_parts m_seed1 m_darkNow), (cAI g a_r 311 d_r), (cAI g a_st 44 d_st)]) := by
  refine cI.of (by decide) (Nat.le_of_ble_eq_true rfl) ?_
  intro p e s m args below meth c A X hr hi
  refine k_lveq [(0, .ref h0), (1, .int p0), (2, .int p1)] rfl ?_
  refine k_aload_n X dX11_farOf_0 0 rfl ?_
  refine k_get (ci := 11) X inlX11 rfl 15 (by decide) dX11_farOf_1 mw170 0 rfl rfl ?_
  refine k_sipush (v := 155) X dX11_farOf_4 (by decide) ?_
  refine k_iconst (v := 2) X dX11_farOf_7 (by decide) ?_
  refine k_iload_n X dX11_farOf_8 1 rfl ?_
  refine k_imul X dX11_farOf_9 ?_
  refine k_nm (fun z_1 ez_1 => ?_)
  have i_2 : z_1.toInt = 2 * p0.toInt := in_mul ez_1 (by decide) (by decide) hv_p0 (by decide) (by decide)
  have iv_3 : IV z_1 0 10 := iz4 i_2 hv_p0 (by decide) (by decide) (by decide)
  refine k_iadd X dX11_farOf_10 ?_
  refine k_nm (fun z_4 ez_4 => ?_)
  have i_5 : z_4.toInt = 155 + z_1.toInt := in_add ez_4 (show IV 155 155 155 from (by decide)) iv_3 (by decide) (by decide)
  have iv_6 : IV z_4 155 165 := iz2 i_5 iv_3 (by decide) (by decide)
  refine k_iald X dX11_farOf_11 1 rfl (iv_in iv_6 (by decide) (by decide)) ?_
  refine k_nm (fun z_7 ez_7 => ?_)
  have i_8 : z_4.toInt = 155 + 2 * p0.toInt := by omega
  have iv_9 : IV z_7 0 7 := rb_155_2 ez_7 hp_d_r i_8 (iv_w hv_p0 (by decide) (by decide))
  refine k_istore_n [(3, .int z_7), (0, .ref h0), (1, .int p0), (2, .int p1)] X dX11_farOf_12 (by decide) rfl ?_
  refine k_aload_n X dX11_farOf_13 1 rfl ?_
  refine k_get (ci := 11) X inlX11 rfl 15 (by decide) dX11_farOf_14 mw170 0 rfl rfl ?_
  refine k_sipush (v := 155) X dX11_farOf_17 (by decide) ?_
  refine k_iconst (v := 2) X dX11_farOf_20 (by decide) ?_
  refine k_iload_n X dX11_farOf_21 2 rfl ?_
  refine k_imul X dX11_farOf_22 ?_
  refine k_to z_1 ez_1.symm ?_
  refine k_iadd X dX11_farOf_23 ?_
  refine k_to z_4 ez_4.symm ?_
  refine k_iconst (v := 1) X dX11_farOf_24 (by decide) ?_
  refine k_iadd X dX11_farOf_25 ?_
  refine k_nm (fun z_10 ez_10 => ?_)
  have i_11 : z_10.toInt = z_4.toInt + 1 := in_add ez_10 iv_6 (show IV 1 1 1 from (by decide)) (by decide) (by decide)
  have iv_12 : IV z_10 156 166 := iz1 i_11 iv_6 (by decide) (by decide)
  refine k_iald X dX11_farOf_26 1 rfl (iv_in iv_12 (by decide) (by decide)) ?_
  refine k_nm (fun z_13 ez_13 => ?_)
  refine k_aload_n X dX11_farOf_27 1 rfl ?_
  refine k_get (ci := 11) X inlX11 rfl 17 (by decide) dX11_farOf_28 mw172 0 rfl rfl ?_
  refine k_bipush (v := 8) X dX11_farOf_31 (by decide) ?_
  refine k_iload_n X dX11_farOf_33 0 rfl ?_
  refine k_iadd X dX11_farOf_34 ?_
  refine k_nm (fun z_14 ez_14 => ?_)
  have i_15 : z_14.toInt = 8 + z_7.toInt := in_add ez_14 (show IV 8 8 8 from (by decide)) iv_9 (by decide) (by decide)
  have iv_16 : IV z_14 8 15 := iz2 i_15 iv_9 (by decide) (by decide)
  refine k_iald X dX11_farOf_35 2 rfl (iv_in iv_16 (by decide) (by decide)) ?_
  refine k_nm (fun z_17 ez_17 => ?_)
  refine k_isub X dX11_farOf_36 ?_
  refine k_nm (fun z_18 ez_18 => ?_)
  refine k_istore [(4, .int z_18), (3, .int z_7), (0, .ref h0), (1, .int p0), (2, .int p1)] X dX11_farOf_37 (by decide) rfl ?_
  refine k_iconst (v := -1) X dX11_farOf_39 (by decide) ?_
  refine k_istore [(5, .int (-1)), (4, .int z_18), (3, .int z_7), (0, .ref h0), (1, .int p0), (2, .int p1)] X dX11_farOf_40 (by decide) rfl ?_
  refine k_iconst (v := 0) X dX11_farOf_42 (by decide) ?_
  refine k_istore [(6, .int 0), (5, .int (-1)), (4, .int z_18), (3, .int z_7), (0, .ref h0), (1, .int p0), (2, .int p1)] X dX11_farOf_43 (by decide) rfl ?_
  refine (fun hL : ∀ (nn_23 : Nat) (u_20 : Int32) (u_21 : Int32), (2147483647 - u_21.toInt).toNat = nn_23 → (IV u_21 0 255) → Wk p l e _ s m args below meth c _ A g _ _ _ [(cO11_i1r1i10r1i2r5i2r12i3r4i2 h0 m_thrown a_tape m_taped m_size m_at m_end m_token m_whole m_nameSize m_fault m_place m_trouble a_letters m_failed m_hasHouse a_r a_fresh a_st a_undone a_kept m_undos m_images a_from a_begin a_motor a_change a_startFrame a_changeFrame a_lostAt a_blackAt a_slips a_leftArc a_died a_arcs m_bestSum m_nearest m_nearestTown a_there a_backAt a_sorted a_parts m_seed1 m_darkNow), (cAI g a_r 311 d_r), (cAI g a_st 44 d_st)] [(6, .int u_21), (5, .int u_20), (4, .int z_18), (3, .int z_7), (0, .ref h0), (1, .int p0), (2, .int p1)] 45 [] => hL _ ((-1)) 0 rfl (iv_w (show IV 0 0 0 from (by decide)) (by decide) (by decide))) ?_
  refine fun nn_23 => Nat.strongRecOn nn_23 (fun nn_23 ih_25 => ?_)
  intro u_20 u_21 hm_24 hv_22
  refine k_iload X dX11_farOf_45 0 rfl ?_
  refine k_aload_n X dX11_farOf_47 4 rfl ?_
  refine k_get (ci := 11) X inlX11 rfl 15 (by decide) dX11_farOf_48 mw170 0 rfl rfl ?_
  refine k_bipush (v := 8) X dX11_farOf_51 (by decide) ?_
  refine k_iald X dX11_farOf_53 1 rfl (by unfold vp_in; decide) ?_
  refine k_nm (fun z_26 ez_26 => ?_)
  have i_27 : z_26.toInt = (d_r 8).toInt := by rw [ez_26]; rfl
  have iv_28 : IV z_26 0 12 := rb_8 ez_26 hp_d_r
  refine k_ic_ge 156 X dX11_farOf_54 (by decide) (fun h_29 => ?_) (fun h_29 => ?_)
  · skip
    have j_30 : z_26.toInt ≤ u_21.toInt := iv_le h_29
    refine k_iload X dX11_farOf_156 1 rfl ?_
    exact k_iret X hr dX11_farOf_158 (Nat.le_of_ble_eq_true rfl) (Nat.le_of_ble_eq_true rfl) [0, 1, 2] (by decide) rfl rfl rfl
  · skip
    have j_31 : u_21.toInt < z_26.toInt := iv_nle h_29
    have iv_32 : IV u_21 0 11 := iv_ltL (iv_nle h_29) hv_22 iv_28 (by decide)
    have iv_33 : IV z_26 1 12 := iv_ltR (iv_nle h_29) hv_22 iv_28 (by decide)
    refine k_aload_n X dX11_farOf_57 4 rfl ?_
    refine k_get (ci := 11) X inlX11 rfl 15 (by decide) dX11_farOf_58 mw170 0 rfl rfl ?_
    refine k_bipush (v := 44) X dX11_farOf_61 (by decide) ?_
    refine k_iconst (v := 3) X dX11_farOf_63 (by decide) ?_
    refine k_iload X dX11_farOf_64 0 rfl ?_
    refine k_imul X dX11_farOf_66 ?_
    refine k_nm (fun z_34 ez_34 => ?_)
    have i_35 : z_34.toInt = 3 * u_21.toInt := in_mul ez_34 (by decide) (by decide) iv_32 (by decide) (by decide)
    have iv_36 : IV z_34 0 33 := iz4 i_35 iv_32 (by decide) (by decide) (by decide)
    refine k_iadd X dX11_farOf_67 ?_
    refine k_nm (fun z_37 ez_37 => ?_)
    have i_38 : z_37.toInt = 44 + z_34.toInt := in_add ez_37 (show IV 44 44 44 from (by decide)) iv_36 (by decide) (by decide)
    have iv_39 : IV z_37 44 77 := iz2 i_38 iv_36 (by decide) (by decide)
    refine k_iconst (v := 2) X dX11_farOf_68 (by decide) ?_
    refine k_iadd X dX11_farOf_69 ?_
    refine k_nm (fun z_40 ez_40 => ?_)
    have i_41 : z_40.toInt = z_37.toInt + 2 := in_add ez_40 iv_39 (show IV 2 2 2 from (by decide)) (by decide) (by decide)
    have iv_42 : IV z_40 46 79 := iz1 i_41 iv_39 (by decide) (by decide)
    refine k_iald X dX11_farOf_70 1 rfl (iv_in iv_42 (by decide) (by decide)) ?_
    refine k_nm (fun z_43 ez_43 => ?_)
    have i_44 : z_40.toInt = 46 + 3 * u_21.toInt := by omega
    have iv_45 : IV z_43 0 3 := rb_46_3 ez_43 hp_d_r i_44 (iv_w iv_32 (by decide) (by decide))
    refine k_iload_n X dX11_farOf_71 6 rfl ?_
    refine k_ic_eq 78 X dX11_farOf_72 (by decide) (fun h_46 => ?_) (fun h_46 => ?_)
    · skip
      have iv_47 : IV p1 0 3 := iv_meet (iv_any p1) (iv_e h_46.symm iv_45) (by decide) (by decide)
      refine k_aload_n X dX11_farOf_78 4 rfl ?_
      refine k_get (ci := 11) X inlX11 rfl 17 (by decide) dX11_farOf_79 mw172 0 rfl rfl ?_
      refine k_bipush (v := 16) X dX11_farOf_82 (by decide) ?_
      refine k_iload X dX11_farOf_84 0 rfl ?_
      refine k_iadd X dX11_farOf_86 ?_
      refine k_nm (fun z_48 ez_48 => ?_)
      have i_49 : z_48.toInt = 16 + u_21.toInt := in_add ez_48 (show IV 16 16 16 from (by decide)) iv_32 (by decide) (by decide)
      have iv_50 : IV z_48 16 27 := iz2 i_49 iv_32 (by decide) (by decide)
      refine k_iald X dX11_farOf_87 2 rfl (iv_in iv_50 (by decide) (by decide)) ?_
      refine k_nm (fun z_51 ez_51 => ?_)
      refine k_aload_n X dX11_farOf_88 4 rfl ?_
      refine k_get (ci := 11) X inlX11 rfl 17 (by decide) dX11_farOf_89 mw172 0 rfl rfl ?_
      refine k_bipush (v := 8) X dX11_farOf_92 (by decide) ?_
      refine k_aload_n X dX11_farOf_94 4 rfl ?_
      refine k_get (ci := 11) X inlX11 rfl 15 (by decide) dX11_farOf_95 mw170 0 rfl rfl ?_
      refine k_bipush (v := 44) X dX11_farOf_98 (by decide) ?_
      refine k_iconst (v := 3) X dX11_farOf_100 (by decide) ?_
      refine k_iload X dX11_farOf_101 0 rfl ?_
      refine k_imul X dX11_farOf_103 ?_
      refine k_to z_34 ez_34.symm ?_
      refine k_iadd X dX11_farOf_104 ?_
      refine k_to z_37 ez_37.symm ?_
      refine k_iald X dX11_farOf_105 1 rfl (iv_in iv_39 (by decide) (by decide)) ?_
      refine k_nm (fun z_52 ez_52 => ?_)
      have i_53 : z_37.toInt = 44 + 3 * u_21.toInt := by omega
      have iv_54 : IV z_52 0 7 := rb_44_3 ez_52 hp_d_r i_53 (iv_w iv_32 (by decide) (by decide))
      refine k_iadd X dX11_farOf_106 ?_
      refine k_nm (fun z_55 ez_55 => ?_)
      have i_56 : z_55.toInt = 8 + z_52.toInt := in_add ez_55 (show IV 8 8 8 from (by decide)) iv_54 (by decide) (by decide)
      have iv_57 : IV z_55 8 15 := iz2 i_56 iv_54 (by decide) (by decide)
      refine k_iald X dX11_farOf_107 2 rfl (iv_in iv_57 (by decide) (by decide)) ?_
      refine k_nm (fun z_58 ez_58 => ?_)
      refine k_isub X dX11_farOf_108 ?_
      refine k_nm (fun z_59 ez_59 => ?_)
      refine k_iload X dX11_farOf_109 2 rfl ?_
      refine k_isub X dX11_farOf_111 ?_
      refine k_nm (fun z_61 ez_61 => ?_)
      refine k_istore [(7, .int z_61), (6, .int u_21), (5, .int u_20), (4, .int z_18), (3, .int z_7), (0, .ref h0), (1, .int p0), (2, .int p1)] X dX11_farOf_112 (by decide) rfl ?_
      refine k_iload X dX11_farOf_114 0 rfl ?_
      refine k_if_ge 125 X dX11_farOf_116 (by decide) (fun h_63 => ?_) (fun h_63 => ?_)
      · skip
        have j_64 : 0 ≤ z_61.toInt := iv_le h_63
        have iv_65 : IV z_61 0 2147483647 := iv_leR (iv_le h_63) (show IV 0 0 0 from (by decide)) (iv_any z_61) (by decide)
        refine k_iload X dX11_farOf_125 0 rfl ?_
        refine k_istore [(7, .int z_61), (6, .int u_21), (5, .int u_20), (4, .int z_18), (3, .int z_7), (0, .ref h0), (1, .int p0), (2, .int p1)] X dX11_farOf_127 (by decide) rfl ?_
        refine k_iload X dX11_farOf_129 2 rfl ?_
        refine k_if_lt 141 X dX11_farOf_131 (by decide) (fun h_66 => ?_) (fun h_66 => ?_)
        · skip
          have j_67 : u_20.toInt < 0 := iv_lt h_66
          have iv_68 : IV u_20 (-2147483648) (-1) := iv_ltL (iv_lt h_66) (iv_any u_20) (show IV 0 0 0 from (by decide)) (by decide)
          refine k_iload X dX11_farOf_141 0 rfl ?_
          refine k_goto 148 X dX11_farOf_143 (by decide) ?_
          refine k_istore [(5, .int z_61), (7, .int z_61), (6, .int u_21), (4, .int z_18), (3, .int z_7), (0, .ref h0), (1, .int p0), (2, .int p1)] X dX11_farOf_148 (by decide) rfl ?_
          obtain ⟨z_69, ez_69⟩ : ∃ y : Int32, u_21 + Int32.ofInt 1 = y := ⟨_, rfl⟩
          refine k_iinc z_69 [(6, .int z_69), (5, .int z_61), (7, .int z_61), (4, .int z_18), (3, .int z_7), (0, .ref h0), (1, .int p0), (2, .int p1)] 2 X dX11_farOf_150 rfl ez_69 (by decide) rfl ?_
          have i_70 : z_69.toInt = u_21.toInt + 1 := in_inc ez_69 (by decide) iv_32 (by decide) (by decide)
          have iv_71 : IV z_69 1 12 := iz1 i_70 iv_32 (by decide) (by decide)
          refine k_goto 45 X dX11_farOf_153 (by decide) ?_
          refine k_lv [(6, .int z_69), (5, .int z_61), (4, .int z_18), (3, .int z_7), (0, .ref h0), (1, .int p0), (2, .int p1)] [0, 1, 3, 4, 5, 6, 7] rfl ?_
          exact ih_25 _ (by omega) z_61 z_69 rfl (iv_w iv_71 (by decide) (by decide))
        · skip
          have j_72 : 0 ≤ u_20.toInt := iv_nlt h_66
          have iv_73 : IV u_20 0 2147483647 := iv_leR (iv_nlt h_66) (show IV 0 0 0 from (by decide)) (iv_any u_20) (by decide)
          refine k_iload X dX11_farOf_134 0 rfl ?_
          refine k_iload X dX11_farOf_136 2 rfl ?_
          refine k_ic_ge 146 X dX11_farOf_138 (by decide) (fun h_74 => ?_) (fun h_74 => ?_)
          · skip
            have j_75 : u_20.toInt ≤ z_61.toInt := iv_le h_74
            refine k_iload X dX11_farOf_146 2 rfl ?_
            refine k_istore [(5, .int u_20), (7, .int z_61), (6, .int u_21), (4, .int z_18), (3, .int z_7), (0, .ref h0), (1, .int p0), (2, .int p1)] X dX11_farOf_148 (by decide) rfl ?_
            obtain ⟨z_76, ez_76⟩ : ∃ y : Int32, u_21 + Int32.ofInt 1 = y := ⟨_, rfl⟩
            refine k_iinc z_76 [(6, .int z_76), (5, .int u_20), (7, .int z_61), (4, .int z_18), (3, .int z_7), (0, .ref h0), (1, .int p0), (2, .int p1)] 2 X dX11_farOf_150 rfl ez_76 (by decide) rfl ?_
            have i_77 : z_76.toInt = u_21.toInt + 1 := in_inc ez_76 (by decide) iv_32 (by decide) (by decide)
            have iv_78 : IV z_76 1 12 := iz1 i_77 iv_32 (by decide) (by decide)
            refine k_goto 45 X dX11_farOf_153 (by decide) ?_
            refine k_lv [(6, .int z_76), (5, .int u_20), (4, .int z_18), (3, .int z_7), (0, .ref h0), (1, .int p0), (2, .int p1)] [0, 1, 3, 4, 5, 6, 7] rfl ?_
            exact ih_25 _ (by omega) u_20 z_76 rfl (iv_w iv_78 (by decide) (by decide))
          · skip
            have j_79 : z_61.toInt < u_20.toInt := iv_nle h_74
            have iv_80 : IV z_61 0 2147483646 := iv_ltL (iv_nle h_74) iv_65 iv_73 (by decide)
            have iv_81 : IV u_20 1 2147483647 := iv_ltR (iv_nle h_74) iv_65 iv_73 (by decide)
            refine k_iload X dX11_farOf_141 0 rfl ?_
            refine k_goto 148 X dX11_farOf_143 (by decide) ?_
            refine k_istore [(5, .int z_61), (7, .int z_61), (6, .int u_21), (4, .int z_18), (3, .int z_7), (0, .ref h0), (1, .int p0), (2, .int p1)] X dX11_farOf_148 (by decide) rfl ?_
            obtain ⟨z_82, ez_82⟩ : ∃ y : Int32, u_21 + Int32.ofInt 1 = y := ⟨_, rfl⟩
            refine k_iinc z_82 [(6, .int z_82), (5, .int z_61), (7, .int z_61), (4, .int z_18), (3, .int z_7), (0, .ref h0), (1, .int p0), (2, .int p1)] 2 X dX11_farOf_150 rfl ez_82 (by decide) rfl ?_
            have i_83 : z_82.toInt = u_21.toInt + 1 := in_inc ez_82 (by decide) iv_32 (by decide) (by decide)
            have iv_84 : IV z_82 1 12 := iz1 i_83 iv_32 (by decide) (by decide)
            refine k_goto 45 X dX11_farOf_153 (by decide) ?_
            refine k_lv [(6, .int z_82), (5, .int z_61), (4, .int z_18), (3, .int z_7), (0, .ref h0), (1, .int p0), (2, .int p1)] [0, 1, 3, 4, 5, 6, 7] rfl ?_
            exact ih_25 _ (by omega) z_61 z_82 rfl (iv_w iv_84 (by decide) (by decide))
      · skip
        have j_85 : z_61.toInt < 0 := iv_nle h_63
        have iv_86 : IV z_61 (-2147483648) (-1) := iv_ltL (iv_nle h_63) (iv_any z_61) (show IV 0 0 0 from (by decide)) (by decide)
        refine k_iload X dX11_farOf_119 0 rfl ?_
        refine k_ineg X dX11_farOf_121 ?_
        refine k_nm (fun z_87 ez_87 => ?_)
        refine k_goto 127 X dX11_farOf_122 (by decide) ?_
        refine k_istore [(7, .int z_87), (6, .int u_21), (5, .int u_20), (4, .int z_18), (3, .int z_7), (0, .ref h0), (1, .int p0), (2, .int p1)] X dX11_farOf_127 (by decide) rfl ?_
        refine k_iload X dX11_farOf_129 2 rfl ?_
        refine k_if_lt 141 X dX11_farOf_131 (by decide) (fun h_88 => ?_) (fun h_88 => ?_)
        · skip
          have j_89 : u_20.toInt < 0 := iv_lt h_88
          have iv_90 : IV u_20 (-2147483648) (-1) := iv_ltL (iv_lt h_88) (iv_any u_20) (show IV 0 0 0 from (by decide)) (by decide)
          refine k_iload X dX11_farOf_141 0 rfl ?_
          refine k_goto 148 X dX11_farOf_143 (by decide) ?_
          refine k_istore [(5, .int z_87), (7, .int z_87), (6, .int u_21), (4, .int z_18), (3, .int z_7), (0, .ref h0), (1, .int p0), (2, .int p1)] X dX11_farOf_148 (by decide) rfl ?_
          obtain ⟨z_91, ez_91⟩ : ∃ y : Int32, u_21 + Int32.ofInt 1 = y := ⟨_, rfl⟩
          refine k_iinc z_91 [(6, .int z_91), (5, .int z_87), (7, .int z_87), (4, .int z_18), (3, .int z_7), (0, .ref h0), (1, .int p0), (2, .int p1)] 2 X dX11_farOf_150 rfl ez_91 (by decide) rfl ?_
          have i_92 : z_91.toInt = u_21.toInt + 1 := in_inc ez_91 (by decide) iv_32 (by decide) (by decide)
          have iv_93 : IV z_91 1 12 := iz1 i_92 iv_32 (by decide) (by decide)
          refine k_goto 45 X dX11_farOf_153 (by decide) ?_
          refine k_lv [(6, .int z_91), (5, .int z_87), (4, .int z_18), (3, .int z_7), (0, .ref h0), (1, .int p0), (2, .int p1)] [0, 1, 3, 4, 5, 6, 7] rfl ?_
          exact ih_25 _ (by omega) z_87 z_91 rfl (iv_w iv_93 (by decide) (by decide))
        · skip
          have j_94 : 0 ≤ u_20.toInt := iv_nlt h_88
          have iv_95 : IV u_20 0 2147483647 := iv_leR (iv_nlt h_88) (show IV 0 0 0 from (by decide)) (iv_any u_20) (by decide)
          refine k_iload X dX11_farOf_134 0 rfl ?_
          refine k_iload X dX11_farOf_136 2 rfl ?_
          refine k_ic_ge 146 X dX11_farOf_138 (by decide) (fun h_96 => ?_) (fun h_96 => ?_)
          · skip
            have j_97 : u_20.toInt ≤ z_87.toInt := iv_le h_96
            have iv_98 : IV z_87 0 2147483647 := iv_leR (iv_le h_96) iv_95 (iv_any z_87) (by decide)
            refine k_iload X dX11_farOf_146 2 rfl ?_
            refine k_istore [(5, .int u_20), (7, .int z_87), (6, .int u_21), (4, .int z_18), (3, .int z_7), (0, .ref h0), (1, .int p0), (2, .int p1)] X dX11_farOf_148 (by decide) rfl ?_
            obtain ⟨z_99, ez_99⟩ : ∃ y : Int32, u_21 + Int32.ofInt 1 = y := ⟨_, rfl⟩
            refine k_iinc z_99 [(6, .int z_99), (5, .int u_20), (7, .int z_87), (4, .int z_18), (3, .int z_7), (0, .ref h0), (1, .int p0), (2, .int p1)] 2 X dX11_farOf_150 rfl ez_99 (by decide) rfl ?_
            have i_100 : z_99.toInt = u_21.toInt + 1 := in_inc ez_99 (by decide) iv_32 (by decide) (by decide)
            have iv_101 : IV z_99 1 12 := iz1 i_100 iv_32 (by decide) (by decide)
            refine k_goto 45 X dX11_farOf_153 (by decide) ?_
            refine k_lv [(6, .int z_99), (5, .int u_20), (4, .int z_18), (3, .int z_7), (0, .ref h0), (1, .int p0), (2, .int p1)] [0, 1, 3, 4, 5, 6, 7] rfl ?_
            exact ih_25 _ (by omega) u_20 z_99 rfl (iv_w iv_101 (by decide) (by decide))
          · skip
            have j_102 : z_87.toInt < u_20.toInt := iv_nle h_96
            have iv_103 : IV z_87 (-2147483648) 2147483646 := iv_ltL (iv_nle h_96) (iv_any z_87) iv_95 (by decide)
            refine k_iload X dX11_farOf_141 0 rfl ?_
            refine k_goto 148 X dX11_farOf_143 (by decide) ?_
            refine k_istore [(5, .int z_87), (7, .int z_87), (6, .int u_21), (4, .int z_18), (3, .int z_7), (0, .ref h0), (1, .int p0), (2, .int p1)] X dX11_farOf_148 (by decide) rfl ?_
            obtain ⟨z_104, ez_104⟩ : ∃ y : Int32, u_21 + Int32.ofInt 1 = y := ⟨_, rfl⟩
            refine k_iinc z_104 [(6, .int z_104), (5, .int z_87), (7, .int z_87), (4, .int z_18), (3, .int z_7), (0, .ref h0), (1, .int p0), (2, .int p1)] 2 X dX11_farOf_150 rfl ez_104 (by decide) rfl ?_
            have i_105 : z_104.toInt = u_21.toInt + 1 := in_inc ez_104 (by decide) iv_32 (by decide) (by decide)
            have iv_106 : IV z_104 1 12 := iz1 i_105 iv_32 (by decide) (by decide)
            refine k_goto 45 X dX11_farOf_153 (by decide) ?_
            refine k_lv [(6, .int z_104), (5, .int z_87), (4, .int z_18), (3, .int z_7), (0, .ref h0), (1, .int p0), (2, .int p1)] [0, 1, 3, 4, 5, 6, 7] rfl ?_
            exact ih_25 _ (by omega) z_87 z_104 rfl (iv_w iv_106 (by decide) (by decide))
    · skip
      refine k_goto 150 X dX11_farOf_75 (by decide) ?_
      obtain ⟨z_107, ez_107⟩ : ∃ y : Int32, u_21 + Int32.ofInt 1 = y := ⟨_, rfl⟩
      refine k_iinc z_107 [(6, .int z_107), (5, .int u_20), (4, .int z_18), (3, .int z_7), (0, .ref h0), (1, .int p0), (2, .int p1)] 0 X dX11_farOf_150 rfl ez_107 (by decide) rfl ?_
      have i_108 : z_107.toInt = u_21.toInt + 1 := in_inc ez_107 (by decide) iv_32 (by decide) (by decide)
      have iv_109 : IV z_107 1 12 := iz1 i_108 iv_32 (by decide) (by decide)
      refine k_goto 45 X dX11_farOf_153 (by decide) ?_
      exact ih_25 _ (by omega) u_20 z_107 rfl (iv_w iv_109 (by decide) (by decide))

theorem dX11_layScratch_0 : decode cX11_layScratch 0 = .ok (.aload_n 0, 1) := dk_42 rfl
theorem dX11_layScratch_1 : decode cX11_layScratch 1 = .ok (.getfield 213, 3) := dk_180 rfl rfl rfl rfl
theorem dX11_layScratch_4 : decode cX11_layScratch 4 = .ok (.ifCond .eq 20, 3) := dk_153 rfl rfl rfl (by decide)
theorem dX11_layScratch_7 : decode cX11_layScratch 7 = .ok (.iload_n 1, 1) := dk_27 rfl
theorem dX11_layScratch_8 : decode cX11_layScratch 8 = .ok (.iconst 0, 1) := dk_3 rfl
theorem dX11_layScratch_9 : decode cX11_layScratch 9 = .ok (.aload_n 0, 1) := dk_42 rfl
theorem dX11_layScratch_10 : decode cX11_layScratch 10 = .ok (.getfield 20, 3) := dk_180 rfl rfl rfl rfl
theorem dX11_layScratch_13 : decode cX11_layScratch 13 = .ok (.bipush 14, 2) := dk_16 rfl rfl (by decide)
theorem dX11_layScratch_15 : decode cX11_layScratch 15 = .ok (.iaload, 1) := dk_46 rfl
theorem dX11_layScratch_16 : decode cX11_layScratch 16 = .ok (.iconst 1, 1) := dk_4 rfl
theorem dX11_layScratch_17 : decode cX11_layScratch 17 = .ok (.isub, 1) := dk_100 rfl
theorem dX11_layScratch_18 : decode cX11_layScratch 18 = .ok (.invokestatic 182, 3) := dk_184 rfl rfl rfl rfl
theorem dX11_layScratch_21 : decode cX11_layScratch 21 = .ok (.ifCond .ne 5, 3) := dk_154 rfl rfl rfl (by decide)
theorem dX11_layScratch_24 : decode cX11_layScratch 24 = .ok (.iconst 0, 1) := dk_3 rfl
theorem dX11_layScratch_25 : decode cX11_layScratch 25 = .ok (.ireturn, 1) := dk_172 rfl
theorem dX11_layScratch_26 : decode cX11_layScratch 26 = .ok (.aload_n 0, 1) := dk_42 rfl
theorem dX11_layScratch_27 : decode cX11_layScratch 27 = .ok (.bipush (-2), 2) := dk_16 rfl rfl (by decide)
theorem dX11_layScratch_29 : decode cX11_layScratch 29 = .ok (.putfield 431, 3) := dk_181 rfl rfl rfl rfl
theorem dX11_layScratch_32 : decode cX11_layScratch 32 = .ok (.aload_n 0, 1) := dk_42 rfl
theorem dX11_layScratch_33 : decode cX11_layScratch 33 = .ok (.bipush (-2), 2) := dk_16 rfl rfl (by decide)
theorem dX11_layScratch_35 : decode cX11_layScratch 35 = .ok (.putfield 434, 3) := dk_181 rfl rfl rfl rfl
theorem dX11_layScratch_38 : decode cX11_layScratch 38 = .ok (.iconst 0, 1) := dk_3 rfl
theorem dX11_layScratch_39 : decode cX11_layScratch 39 = .ok (.istore_n 2, 1) := dk_61 rfl
theorem dX11_layScratch_40 : decode cX11_layScratch 40 = .ok (.iload_n 2, 1) := dk_28 rfl
theorem dX11_layScratch_41 : decode cX11_layScratch 41 = .ok (.aload_n 0, 1) := dk_42 rfl
theorem dX11_layScratch_42 : decode cX11_layScratch 42 = .ok (.getfield 20, 3) := dk_180 rfl rfl rfl rfl
theorem dX11_layScratch_45 : decode cX11_layScratch 45 = .ok (.bipush 7, 2) := dk_16 rfl rfl (by decide)
theorem dX11_layScratch_47 : decode cX11_layScratch 47 = .ok (.iaload, 1) := dk_46 rfl
theorem dX11_layScratch_48 : decode cX11_layScratch 48 = .ok (.if_icmp .ge 48, 3) := dk_162 rfl rfl rfl (by decide)
theorem dX11_layScratch_51 : decode cX11_layScratch 51 = .ok (.aload_n 0, 1) := dk_42 rfl
theorem dX11_layScratch_52 : decode cX11_layScratch 52 = .ok (.iload_n 1, 1) := dk_27 rfl
theorem dX11_layScratch_53 : decode cX11_layScratch 53 = .ok (.iload_n 2, 1) := dk_28 rfl
theorem dX11_layScratch_54 : decode cX11_layScratch 54 = .ok (.invokevirtual 437, 3) := dk_182 rfl rfl rfl rfl
theorem dX11_layScratch_57 : decode cX11_layScratch 57 = .ok (.istore_n 3, 1) := dk_62 rfl
theorem dX11_layScratch_58 : decode cX11_layScratch 58 = .ok (.iload_n 3, 1) := dk_29 rfl
theorem dX11_layScratch_59 : decode cX11_layScratch 59 = .ok (.ifCond .lt 31, 3) := dk_155 rfl rfl rfl (by decide)
theorem dX11_layScratch_62 : decode cX11_layScratch 62 = .ok (.aload_n 0, 1) := dk_42 rfl
theorem dX11_layScratch_63 : decode cX11_layScratch 63 = .ok (.getfield 431, 3) := dk_180 rfl rfl rfl rfl
theorem dX11_layScratch_66 : decode cX11_layScratch 66 = .ok (.ifCond .lt 14, 3) := dk_155 rfl rfl rfl (by decide)
theorem dX11_layScratch_69 : decode cX11_layScratch 69 = .ok (.iload_n 3, 1) := dk_29 rfl
theorem dX11_layScratch_70 : decode cX11_layScratch 70 = .ok (.aload_n 0, 1) := dk_42 rfl
theorem dX11_layScratch_71 : decode cX11_layScratch 71 = .ok (.getfield 431, 3) := dk_180 rfl rfl rfl rfl
theorem dX11_layScratch_74 : decode cX11_layScratch 74 = .ok (.if_icmp .lt 6, 3) := dk_161 rfl rfl rfl (by decide)
theorem dX11_layScratch_77 : decode cX11_layScratch 77 = .ok (.goto 13, 3) := dk_167 rfl rfl rfl (by decide)
theorem dX11_layScratch_80 : decode cX11_layScratch 80 = .ok (.aload_n 0, 1) := dk_42 rfl
theorem dX11_layScratch_81 : decode cX11_layScratch 81 = .ok (.iload_n 3, 1) := dk_29 rfl
theorem dX11_layScratch_82 : decode cX11_layScratch 82 = .ok (.putfield 431, 3) := dk_181 rfl rfl rfl rfl
theorem dX11_layScratch_85 : decode cX11_layScratch 85 = .ok (.aload_n 0, 1) := dk_42 rfl
theorem dX11_layScratch_86 : decode cX11_layScratch 86 = .ok (.iload_n 2, 1) := dk_28 rfl
theorem dX11_layScratch_87 : decode cX11_layScratch 87 = .ok (.putfield 434, 3) := dk_181 rfl rfl rfl rfl
theorem dX11_layScratch_90 : decode cX11_layScratch 90 = .ok (.iinc 2 1, 3) := dk_132 rfl rfl rfl rfl (by decide)
theorem dX11_layScratch_93 : decode cX11_layScratch 93 = .ok (.goto (-53), 3) := dk_167 rfl rfl rfl (by decide)
theorem dX11_layScratch_96 : decode cX11_layScratch 96 = .ok (.iconst 1, 1) := dk_4 rfl
theorem dX11_layScratch_97 : decode cX11_layScratch 97 = .ok (.ireturn, 1) := by decide +kernel
set_option maxHeartbeats 4000000 in
set_option maxRecDepth 100000 in
theorem m_layScratch (l : Launch) (g : Gx) (h0 : Nat) (p0 : Int32) (m_thrown : Int32) (a_tape : Nat) (m_taped : Int32) (m_size : Int32) (m_at : Int32) (m_end : Int32) (m_token : Int32) (m_whole : Int32) (m_nameSize : Int32) (m_fault : Int32) (m_place : Int32) (m_trouble : Int32) (a_letters : Nat) (m_failed : Int32) (m_hasHouse : Int32) (a_r : Nat) (a_fresh : Nat) (a_st : Nat) (a_undone : Nat) (a_kept : Nat) (m_undos : Int32) (m_images : Int32) (a_from : Nat) (a_begin : Nat) (a_motor : Nat) (a_change : Nat) (a_startFrame : Nat) (a_changeFrame : Nat) (a_lostAt : Nat) (a_blackAt : Nat) (a_slips : Nat) (a_leftArc : Nat) (a_died : Nat) (a_arcs : Nat) (m_bestSum : Int32) (m_nearest : Int32) (m_nearestTown : Int32) (a_there : Nat) (a_backAt : Nat) (a_sorted : Nat) (a_parts : Nat) (m_seed1 : Int32) (m_darkNow : Int32) (d_r : Nat → Int32) (d_st : Nat → Int32) (hv_m_hasHouse : IV m_hasHouse 0 1) (hp_d_r : RInv d_r) : cI l g yX11_layScratch cX11_layScratch 4 (some .boolean) 1 27 0 0 [.ref h0, .int p0] [(cO11_i1r1i10r1i2r5i2r12i3r4i2 h0 m_thrown a_tape m_taped m_size m_at m_end m_token m_whole m_nameSize m_fault m_place m_trouble a_letters m_failed m_hasHouse a_r a_fresh a_st a_undone a_kept m_undos m_images a_from a_begin a_motor a_change a_startFrame a_changeFrame a_lostAt a_blackAt a_slips a_leftArc a_died a_arcs m_bestSum m_nearest m_nearestTown a_there a_backAt a_sorted a_parts m_seed1 m_darkNow), (cAI g a_r 311 d_r), (cAI g a_st 44 d_st)] (fun r w => ∃ (m_nearest2 : Int32) (m_nearestTown2 : Int32), IV r 0 1 ∧ w = [(cO11_i1r1i10r1i2r5i2r12i3r4i2 h0 m_thrown a_tape m_taped m_size m_at m_end m_token m_whole m_nameSize m_fault m_place m_trouble a_letters m_failed m_hasHouse a_r a_fresh a_st a_undone a_kept m_undos m_images a_from a_begin a_motor a_change a_startFrame a_changeFrame a_lostAt a_blackAt a_slips a_leftArc a_died a_arcs m_bestSum m_nearest2 m_nearestTown2 a_there a_backAt a_sorted a_parts m_seed1 m_darkNow), (cAI g a_r 311 d_r), (cAI g a_st 44 d_st)]) := by
  refine cI.of (by decide) (Nat.le_of_ble_eq_true rfl) ?_
  intro p e s m args below meth c A X hr hi
  refine k_lveq [(0, .ref h0), (1, .int p0)] rfl ?_
  refine k_aload_n X dX11_layScratch_0 0 rfl ?_
  refine k_get (ci := 11) X inlX11 rfl 14 (by decide) dX11_layScratch_1 mw474 0 rfl rfl ?_
  refine k_if_eq 24 X dX11_layScratch_4 (by decide) (fun h_1 => ?_) (fun h_1 => ?_)
  · skip
    have iv_2 : IV m_hasHouse 0 0 := iv_meet hv_m_hasHouse (iv_e h_1 (show IV 0 0 0 from (by decide))) (by decide) (by decide)
    refine k_iconst (v := 0) X dX11_layScratch_24 (by decide) ?_
    exact k_zret X hr (by first | rfl | decide) dX11_layScratch_25 (Nat.le_of_ble_eq_true rfl) (Nat.le_of_ble_eq_true rfl) [0, 1, 2] (by decide) rfl rfl ⟨m_nearest, m_nearestTown, (iv_w (show IV 0 0 0 from (by decide)) (by decide) (by decide)), rfl⟩
  · skip
    have iv_3 : IV m_hasHouse 1 1 := iv_neL h_1 hv_m_hasHouse (show IV 0 0 0 from (by decide)) (by decide)
    refine k_iload_n X dX11_layScratch_7 1 rfl ?_
    refine k_iconst (v := 0) X dX11_layScratch_8 (by decide) ?_
    refine k_aload_n X dX11_layScratch_9 0 rfl ?_
    refine k_get (ci := 11) X inlX11 rfl 15 (by decide) dX11_layScratch_10 mw170 0 rfl rfl ?_
    refine k_bipush (v := 14) X dX11_layScratch_13 (by decide) ?_
    refine k_iald X dX11_layScratch_15 1 rfl (by unfold vp_in; decide) ?_
    refine k_nm (fun z_4 ez_4 => ?_)
    have i_5 : z_4.toInt = (d_r 14).toInt := by rw [ez_4]; rfl
    have iv_6 : IV z_4 0 6 := rb_14 ez_4 hp_d_r
    refine k_iconst (v := 1) X dX11_layScratch_16 (by decide) ?_
    refine k_isub X dX11_layScratch_17 ?_
    refine k_nm (fun z_7 ez_7 => ?_)
    have i_8 : z_7.toInt = z_4.toInt - 1 := in_sub ez_7 iv_6 (show IV 1 1 1 from (by decide)) (by decide) (by decide)
    have iv_9 : IV z_7 (-1) 5 := iz5 i_8 iv_6 (by decide) (by decide)
    refine k_callSI (n := 3) (As := [.int p0, .int 0, .int z_7]) (st := []) X [] [(cO11_i1r1i10r1i2r5i2r12i3r4i2 h0 m_thrown a_tape m_taped m_size m_at m_end m_token m_whole m_nameSize m_fault m_place m_trouble a_letters m_failed m_hasHouse a_r a_fresh a_st a_undone a_kept m_undos m_images a_from a_begin a_motor a_change a_startFrame a_changeFrame a_lostAt a_blackAt a_slips a_leftArc a_died a_arcs m_bestSum m_nearest m_nearestTown a_there a_backAt a_sorted a_parts m_seed1 m_darkNow), (cAI g a_r 311 d_r), (cAI g a_st 44 d_st)] [] [0, 1, 2] (m_in l g p0 0 z_7) dX11_layScratch_18 mw482 mw483 mw5 mw484 yk_yX11_in_3 rfl (Nat.le_of_ble_eq_true rfl) (Nat.le_of_ble_eq_true rfl) (Nat.le_of_ble_eq_true rfl) (Nat.le_of_ble_eq_true rfl) (Nat.le_of_ble_eq_true rfl) rfl rfl (by decide) rfl (by decide) (by decide) ?_
    rintro r_10 w ⟨iv_11, hk_12, hk_13, rfl⟩
    refine k_ws [(cO11_i1r1i10r1i2r5i2r12i3r4i2 h0 m_thrown a_tape m_taped m_size m_at m_end m_token m_whole m_nameSize m_fault m_place m_trouble a_letters m_failed m_hasHouse a_r a_fresh a_st a_undone a_kept m_undos m_images a_from a_begin a_motor a_change a_startFrame a_changeFrame a_lostAt a_blackAt a_slips a_leftArc a_died a_arcs m_bestSum m_nearest m_nearestTown a_there a_backAt a_sorted a_parts m_seed1 m_darkNow), (cAI g a_r 311 d_r), (cAI g a_st 44 d_st)] rfl ?_
    refine k_if_ne 26 X dX11_layScratch_21 (by decide) (fun h_14 => ?_) (fun h_14 => ?_)
    · skip
      have hc_15 := hk_12.resolve_left h_14
      have j_16 : 0 ≤ p0.toInt := hc_15.1
      have iv_17 : IV p0 0 2147483647 := iv_leR hc_15.1 (show IV 0 0 0 from (by decide)) (iv_any p0) (by decide)
      have j_18 : p0.toInt ≤ z_7.toInt := hc_15.2
      have iv_19 : IV p0 0 5 := iv_leL hc_15.2 iv_17 iv_9 (by decide)
      have iv_20 : IV z_7 0 5 := iv_leR hc_15.2 iv_19 iv_9 (by decide)
      have iv_21 : IV z_4 1 6 := by have := iv_6; have := iv_20; rw [IV]; omega
      have iv_22 : IV r_10 1 1 := iv_neL h_14 iv_11 (show IV 0 0 0 from (by decide)) (by decide)
      refine k_aload_n X dX11_layScratch_26 0 rfl ?_
      refine k_bipush (v := -2) X dX11_layScratch_27 (by decide) ?_
      refine k_put (ci := 11) [(cO11_i1r1i10r1i2r5i2r12i3r4i2 h0 m_thrown a_tape m_taped m_size m_at m_end m_token m_whole m_nameSize m_fault m_place m_trouble a_letters m_failed m_hasHouse a_r a_fresh a_st a_undone a_kept m_undos m_images a_from a_begin a_motor a_change a_startFrame a_changeFrame a_lostAt a_blackAt a_slips a_leftArc a_died a_arcs m_bestSum (-2) m_nearestTown a_there a_backAt a_sorted a_parts m_seed1 m_darkNow), (cAI g a_r 311 d_r), (cAI g a_st 44 d_st)] X inlX11 rfl tyX11_ok nmX11 35 (by decide) rfl dX11_layScratch_29 mw1205 0 rfl rfl rfl (Nat.le_of_ble_eq_true rfl) rfl ?_
      refine k_aload_n X dX11_layScratch_32 0 rfl ?_
      refine k_bipush (v := -2) X dX11_layScratch_33 (by decide) ?_
      refine k_put (ci := 11) [(cO11_i1r1i10r1i2r5i2r12i3r4i2 h0 m_thrown a_tape m_taped m_size m_at m_end m_token m_whole m_nameSize m_fault m_place m_trouble a_letters m_failed m_hasHouse a_r a_fresh a_st a_undone a_kept m_undos m_images a_from a_begin a_motor a_change a_startFrame a_changeFrame a_lostAt a_blackAt a_slips a_leftArc a_died a_arcs m_bestSum (-2) (-2) a_there a_backAt a_sorted a_parts m_seed1 m_darkNow), (cAI g a_r 311 d_r), (cAI g a_st 44 d_st)] X inlX11 rfl tyX11_ok nmX11 36 (by decide) rfl dX11_layScratch_35 mw1200 0 rfl rfl rfl (Nat.le_of_ble_eq_true rfl) rfl ?_
      refine k_iconst (v := 0) X dX11_layScratch_38 (by decide) ?_
      refine k_istore_n [(2, .int 0), (0, .ref h0), (1, .int p0)] X dX11_layScratch_39 (by decide) rfl ?_
      refine (fun hL : ∀ (nn_29 : Nat) (u_23 : Int32) (u_25 : Int32) (u_27 : Int32), (2147483647 - u_23.toInt).toNat = nn_29 → (IV u_23 0 8) → (IV u_25 (-2) 2147483647) → (IV u_27 (-2) 3) → Wk p l e _ s m args below meth c _ A g _ _ _ [(cO11_i1r1i10r1i2r5i2r12i3r4i2 h0 m_thrown a_tape m_taped m_size m_at m_end m_token m_whole m_nameSize m_fault m_place m_trouble a_letters m_failed m_hasHouse a_r a_fresh a_st a_undone a_kept m_undos m_images a_from a_begin a_motor a_change a_startFrame a_changeFrame a_lostAt a_blackAt a_slips a_leftArc a_died a_arcs m_bestSum u_25 u_27 a_there a_backAt a_sorted a_parts m_seed1 m_darkNow), (cAI g a_r 311 d_r), (cAI g a_st 44 d_st)] [(2, .int u_23), (0, .ref h0), (1, .int p0)] 40 [] => hL _ 0 ((-2)) ((-2)) rfl (iv_w (show IV 0 0 0 from (by decide)) (by decide) (by decide)) (iv_w (show IV (-2) (-2) (-2) from (by decide)) (by decide) (by decide)) (iv_w (show IV (-2) (-2) (-2) from (by decide)) (by decide) (by decide))) ?_
      refine fun nn_29 => Nat.strongRecOn nn_29 (fun nn_29 ih_31 => ?_)
      intro u_23 u_25 u_27 hm_30 hv_24 hv_26 hv_28
      refine k_iload_n X dX11_layScratch_40 0 rfl ?_
      refine k_aload_n X dX11_layScratch_41 1 rfl ?_
      refine k_get (ci := 11) X inlX11 rfl 15 (by decide) dX11_layScratch_42 mw170 0 rfl rfl ?_
      refine k_bipush (v := 7) X dX11_layScratch_45 (by decide) ?_
      refine k_iald X dX11_layScratch_47 1 rfl (by unfold vp_in; decide) ?_
      refine k_nm (fun z_32 ez_32 => ?_)
      have i_33 : z_32.toInt = (d_r 7).toInt := by rw [ez_32]; rfl
      have iv_34 : IV z_32 0 4 := rb_7 ez_32 hp_d_r
      refine k_ic_ge 96 X dX11_layScratch_48 (by decide) (fun h_35 => ?_) (fun h_35 => ?_)
      · skip
        have j_36 : z_32.toInt ≤ u_23.toInt := iv_le h_35
        refine k_iconst (v := 1) X dX11_layScratch_96 (by decide) ?_
        exact k_zret X hr (by first | rfl | decide) dX11_layScratch_97 (Nat.le_of_ble_eq_true rfl) (Nat.le_of_ble_eq_true rfl) [0, 1, 2] (by decide) rfl rfl ⟨u_25, u_27, (iv_w (show IV 1 1 1 from (by decide)) (by decide) (by decide)), rfl⟩
      · skip
        have j_37 : u_23.toInt < z_32.toInt := iv_nle h_35
        have iv_38 : IV u_23 0 3 := iv_ltL (iv_nle h_35) hv_24 iv_34 (by decide)
        have iv_39 : IV z_32 1 4 := iv_ltR (iv_nle h_35) hv_24 iv_34 (by decide)
        refine k_aload_n X dX11_layScratch_51 1 rfl ?_
        refine k_iload_n X dX11_layScratch_52 2 rfl ?_
        refine k_iload_n X dX11_layScratch_53 0 rfl ?_
        refine k_callVI (n := 2) (As := [.int p0, .int u_23]) (st := []) X [(cO11_i1r1i10r1i2r5i2r12i3r4i2 h0 m_thrown a_tape m_taped m_size m_at m_end m_token m_whole m_nameSize m_fault m_place m_trouble a_letters m_failed m_hasHouse a_r a_fresh a_st a_undone a_kept m_undos m_images a_from a_begin a_motor a_change a_startFrame a_changeFrame a_lostAt a_blackAt a_slips a_leftArc a_died a_arcs m_bestSum u_25 u_27 a_there a_backAt a_sorted a_parts m_seed1 m_darkNow), (cAI g a_r 311 d_r), (cAI g a_st 44 d_st)] [] [0, 1, 2] [] (m_farOf l g h0 p0 u_23 m_thrown a_tape m_taped m_size m_at m_end m_token m_whole m_nameSize m_fault m_place m_trouble a_letters m_failed m_hasHouse a_r a_fresh a_st a_undone a_kept m_undos m_images a_from a_begin a_motor a_change a_startFrame a_changeFrame a_lostAt a_blackAt a_slips a_leftArc a_died a_arcs m_bestSum u_25 u_27 a_there a_backAt a_sorted a_parts m_seed1 m_darkNow d_r d_st (iv_w iv_19 (by decide) (by decide)) hp_d_r) dX11_layScratch_54 mw1206 mw1207 mw1208 mw5 mw1209 rfl 11 rfl rfl 0 _ rfl yk_yX11_farOf_2 rfl (Nat.le_of_ble_eq_true rfl) (Nat.le_of_ble_eq_true rfl) (Nat.le_of_ble_eq_true rfl) (Nat.le_of_ble_eq_true rfl) (Nat.le_of_ble_eq_true rfl) rfl rfl (by decide) rfl (by decide) (by decide) ?_
        rintro r_40 w rfl
        refine k_ws [(cO11_i1r1i10r1i2r5i2r12i3r4i2 h0 m_thrown a_tape m_taped m_size m_at m_end m_token m_whole m_nameSize m_fault m_place m_trouble a_letters m_failed m_hasHouse a_r a_fresh a_st a_undone a_kept m_undos m_images a_from a_begin a_motor a_change a_startFrame a_changeFrame a_lostAt a_blackAt a_slips a_leftArc a_died a_arcs m_bestSum u_25 u_27 a_there a_backAt a_sorted a_parts m_seed1 m_darkNow), (cAI g a_r 311 d_r), (cAI g a_st 44 d_st)] rfl ?_
        refine k_istore_n [(3, .int r_40), (2, .int u_23), (0, .ref h0), (1, .int p0)] X dX11_layScratch_57 (by decide) rfl ?_
        refine k_iload_n X dX11_layScratch_58 0 rfl ?_
        refine k_if_lt 90 X dX11_layScratch_59 (by decide) (fun h_41 => ?_) (fun h_41 => ?_)
        · skip
          have j_42 : r_40.toInt < 0 := iv_lt h_41
          have iv_43 : IV r_40 (-2147483648) (-1) := iv_ltL (iv_lt h_41) (iv_any r_40) (show IV 0 0 0 from (by decide)) (by decide)
          obtain ⟨z_44, ez_44⟩ : ∃ y : Int32, u_23 + Int32.ofInt 1 = y := ⟨_, rfl⟩
          refine k_iinc z_44 [(2, .int z_44), (3, .int r_40), (0, .ref h0), (1, .int p0)] 1 X dX11_layScratch_90 rfl ez_44 (by decide) rfl ?_
          have i_45 : z_44.toInt = u_23.toInt + 1 := in_inc ez_44 (by decide) iv_38 (by decide) (by decide)
          have iv_46 : IV z_44 1 4 := iz1 i_45 iv_38 (by decide) (by decide)
          refine k_goto 40 X dX11_layScratch_93 (by decide) ?_
          refine k_lv [(2, .int z_44), (0, .ref h0), (1, .int p0)] [0, 2, 3] rfl ?_
          exact ih_31 _ (by omega) z_44 u_25 u_27 rfl (iv_w iv_46 (by decide) (by decide)) (iv_w hv_26 (by decide) (by decide)) (iv_w hv_28 (by decide) (by decide))
        · skip
          have j_47 : 0 ≤ r_40.toInt := iv_nlt h_41
          have iv_48 : IV r_40 0 2147483647 := iv_leR (iv_nlt h_41) (show IV 0 0 0 from (by decide)) (iv_any r_40) (by decide)
          refine k_aload_n X dX11_layScratch_62 2 rfl ?_
          refine k_get (ci := 11) X inlX11 rfl 35 (by decide) dX11_layScratch_63 mw1205 0 rfl rfl ?_
          refine k_if_lt 80 X dX11_layScratch_66 (by decide) (fun h_49 => ?_) (fun h_49 => ?_)
          · skip
            have j_50 : u_25.toInt < 0 := iv_lt h_49
            have iv_51 : IV u_25 (-2) (-1) := iv_ltL (iv_lt h_49) hv_26 (show IV 0 0 0 from (by decide)) (by decide)
            refine k_aload_n X dX11_layScratch_80 2 rfl ?_
            refine k_iload_n X dX11_layScratch_81 0 rfl ?_
            refine k_put (ci := 11) [(cO11_i1r1i10r1i2r5i2r12i3r4i2 h0 m_thrown a_tape m_taped m_size m_at m_end m_token m_whole m_nameSize m_fault m_place m_trouble a_letters m_failed m_hasHouse a_r a_fresh a_st a_undone a_kept m_undos m_images a_from a_begin a_motor a_change a_startFrame a_changeFrame a_lostAt a_blackAt a_slips a_leftArc a_died a_arcs m_bestSum r_40 u_27 a_there a_backAt a_sorted a_parts m_seed1 m_darkNow), (cAI g a_r 311 d_r), (cAI g a_st 44 d_st)] X inlX11 rfl tyX11_ok nmX11 35 (by decide) rfl dX11_layScratch_82 mw1205 0 rfl rfl rfl (Nat.le_of_ble_eq_true rfl) rfl ?_
            refine k_aload_n X dX11_layScratch_85 2 rfl ?_
            refine k_iload_n X dX11_layScratch_86 1 rfl ?_
            refine k_put (ci := 11) [(cO11_i1r1i10r1i2r5i2r12i3r4i2 h0 m_thrown a_tape m_taped m_size m_at m_end m_token m_whole m_nameSize m_fault m_place m_trouble a_letters m_failed m_hasHouse a_r a_fresh a_st a_undone a_kept m_undos m_images a_from a_begin a_motor a_change a_startFrame a_changeFrame a_lostAt a_blackAt a_slips a_leftArc a_died a_arcs m_bestSum r_40 u_23 a_there a_backAt a_sorted a_parts m_seed1 m_darkNow), (cAI g a_r 311 d_r), (cAI g a_st 44 d_st)] X inlX11 rfl tyX11_ok nmX11 36 (by decide) rfl dX11_layScratch_87 mw1200 0 rfl rfl rfl (Nat.le_of_ble_eq_true rfl) rfl ?_
            obtain ⟨z_52, ez_52⟩ : ∃ y : Int32, u_23 + Int32.ofInt 1 = y := ⟨_, rfl⟩
            refine k_iinc z_52 [(2, .int z_52), (3, .int r_40), (0, .ref h0), (1, .int p0)] 1 X dX11_layScratch_90 rfl ez_52 (by decide) rfl ?_
            have i_53 : z_52.toInt = u_23.toInt + 1 := in_inc ez_52 (by decide) iv_38 (by decide) (by decide)
            have iv_54 : IV z_52 1 4 := iz1 i_53 iv_38 (by decide) (by decide)
            refine k_goto 40 X dX11_layScratch_93 (by decide) ?_
            refine k_lv [(2, .int z_52), (0, .ref h0), (1, .int p0)] [0, 2, 3] rfl ?_
            exact ih_31 _ (by omega) z_52 r_40 u_23 rfl (iv_w iv_54 (by decide) (by decide)) (iv_w iv_48 (by decide) (by decide)) (iv_w iv_38 (by decide) (by decide))
          · skip
            have j_55 : 0 ≤ u_25.toInt := iv_nlt h_49
            have iv_56 : IV u_25 0 2147483647 := iv_leR (iv_nlt h_49) (show IV 0 0 0 from (by decide)) hv_26 (by decide)
            refine k_iload_n X dX11_layScratch_69 0 rfl ?_
            refine k_aload_n X dX11_layScratch_70 2 rfl ?_
            refine k_get (ci := 11) X inlX11 rfl 35 (by decide) dX11_layScratch_71 mw1205 0 rfl rfl ?_
            refine k_ic_lt 80 X dX11_layScratch_74 (by decide) (fun h_57 => ?_) (fun h_57 => ?_)
            · skip
              have j_58 : r_40.toInt < u_25.toInt := iv_lt h_57
              have iv_59 : IV r_40 0 2147483646 := iv_ltL (iv_lt h_57) iv_48 iv_56 (by decide)
              have iv_60 : IV u_25 1 2147483647 := iv_ltR (iv_lt h_57) iv_48 iv_56 (by decide)
              refine k_aload_n X dX11_layScratch_80 2 rfl ?_
              refine k_iload_n X dX11_layScratch_81 0 rfl ?_
              refine k_put (ci := 11) [(cO11_i1r1i10r1i2r5i2r12i3r4i2 h0 m_thrown a_tape m_taped m_size m_at m_end m_token m_whole m_nameSize m_fault m_place m_trouble a_letters m_failed m_hasHouse a_r a_fresh a_st a_undone a_kept m_undos m_images a_from a_begin a_motor a_change a_startFrame a_changeFrame a_lostAt a_blackAt a_slips a_leftArc a_died a_arcs m_bestSum r_40 u_27 a_there a_backAt a_sorted a_parts m_seed1 m_darkNow), (cAI g a_r 311 d_r), (cAI g a_st 44 d_st)] X inlX11 rfl tyX11_ok nmX11 35 (by decide) rfl dX11_layScratch_82 mw1205 0 rfl rfl rfl (Nat.le_of_ble_eq_true rfl) rfl ?_
              refine k_aload_n X dX11_layScratch_85 2 rfl ?_
              refine k_iload_n X dX11_layScratch_86 1 rfl ?_
              refine k_put (ci := 11) [(cO11_i1r1i10r1i2r5i2r12i3r4i2 h0 m_thrown a_tape m_taped m_size m_at m_end m_token m_whole m_nameSize m_fault m_place m_trouble a_letters m_failed m_hasHouse a_r a_fresh a_st a_undone a_kept m_undos m_images a_from a_begin a_motor a_change a_startFrame a_changeFrame a_lostAt a_blackAt a_slips a_leftArc a_died a_arcs m_bestSum r_40 u_23 a_there a_backAt a_sorted a_parts m_seed1 m_darkNow), (cAI g a_r 311 d_r), (cAI g a_st 44 d_st)] X inlX11 rfl tyX11_ok nmX11 36 (by decide) rfl dX11_layScratch_87 mw1200 0 rfl rfl rfl (Nat.le_of_ble_eq_true rfl) rfl ?_
              obtain ⟨z_61, ez_61⟩ : ∃ y : Int32, u_23 + Int32.ofInt 1 = y := ⟨_, rfl⟩
              refine k_iinc z_61 [(2, .int z_61), (3, .int r_40), (0, .ref h0), (1, .int p0)] 1 X dX11_layScratch_90 rfl ez_61 (by decide) rfl ?_
              have i_62 : z_61.toInt = u_23.toInt + 1 := in_inc ez_61 (by decide) iv_38 (by decide) (by decide)
              have iv_63 : IV z_61 1 4 := iz1 i_62 iv_38 (by decide) (by decide)
              refine k_goto 40 X dX11_layScratch_93 (by decide) ?_
              refine k_lv [(2, .int z_61), (0, .ref h0), (1, .int p0)] [0, 2, 3] rfl ?_
              exact ih_31 _ (by omega) z_61 r_40 u_23 rfl (iv_w iv_63 (by decide) (by decide)) (iv_w iv_59 (by decide) (by decide)) (iv_w iv_38 (by decide) (by decide))
            · skip
              have j_64 : u_25.toInt ≤ r_40.toInt := iv_nlt h_57
              refine k_goto 90 X dX11_layScratch_77 (by decide) ?_
              obtain ⟨z_65, ez_65⟩ : ∃ y : Int32, u_23 + Int32.ofInt 1 = y := ⟨_, rfl⟩
              refine k_iinc z_65 [(2, .int z_65), (3, .int r_40), (0, .ref h0), (1, .int p0)] 1 X dX11_layScratch_90 rfl ez_65 (by decide) rfl ?_
              have i_66 : z_65.toInt = u_23.toInt + 1 := in_inc ez_65 (by decide) iv_38 (by decide) (by decide)
              have iv_67 : IV z_65 1 4 := iz1 i_66 iv_38 (by decide) (by decide)
              refine k_goto 40 X dX11_layScratch_93 (by decide) ?_
              refine k_lv [(2, .int z_65), (0, .ref h0), (1, .int p0)] [0, 2, 3] rfl ?_
              exact ih_31 _ (by omega) z_65 u_25 u_27 rfl (iv_w iv_67 (by decide) (by decide)) (iv_w iv_56 (by decide) (by decide)) (iv_w hv_28 (by decide) (by decide))
    · skip
      have iv_68 : IV r_10 0 0 := iv_meet iv_11 (iv_e h_14 (show IV 0 0 0 from (by decide))) (by decide) (by decide)
      have hc_69 := hk_13 (iv_eq iv_68 (show IV 0 0 0 from (by decide)))
      have j_70 : p0.toInt < 0 ∨ z_7.toInt < p0.toInt := hc_69
      refine k_iconst (v := 0) X dX11_layScratch_24 (by decide) ?_
      exact k_zret X hr (by first | rfl | decide) dX11_layScratch_25 (Nat.le_of_ble_eq_true rfl) (Nat.le_of_ble_eq_true rfl) [0, 1, 2] (by decide) rfl rfl ⟨m_nearest, m_nearestTown, (iv_w (show IV 0 0 0 from (by decide)) (by decide) (by decide)), rfl⟩

theorem dX11_who_0 : decode cX11_who 0 = .ok (.aload_n 0, 1) := dk_42 rfl
theorem dX11_who_1 : decode cX11_who 1 = .ok (.invokevirtual 200, 3) := dk_182 rfl rfl rfl rfl
theorem dX11_who_4 : decode cX11_who 4 = .ok (.aload_n 0, 1) := dk_42 rfl
theorem dX11_who_5 : decode cX11_who 5 = .ok (.iload_n 1, 1) := dk_27 rfl
theorem dX11_who_6 : decode cX11_who 6 = .ok (.invokevirtual 440, 3) := dk_182 rfl rfl rfl rfl
theorem dX11_who_9 : decode cX11_who 9 = .ok (.ifCond .eq 10, 3) := dk_153 rfl rfl rfl (by decide)
theorem dX11_who_12 : decode cX11_who 12 = .ok (.aload_n 0, 1) := dk_42 rfl
theorem dX11_who_13 : decode cX11_who 13 = .ok (.getfield 434, 3) := dk_180 rfl rfl rfl rfl
theorem dX11_who_16 : decode cX11_who 16 = .ok (.goto 8, 3) := dk_167 rfl rfl rfl (by decide)
theorem dX11_who_19 : decode cX11_who 19 = .ok (.aload_n 0, 1) := dk_42 rfl
theorem dX11_who_20 : decode cX11_who 20 = .ok (.iconst 1, 1) := dk_4 rfl
theorem dX11_who_21 : decode cX11_who 21 = .ok (.invokevirtual 203, 3) := dk_182 rfl rfl rfl rfl
theorem dX11_who_24 : decode cX11_who 24 = .ok (.ireturn, 1) := dk_172 rfl
set_option maxHeartbeats 4000000 in
set_option maxRecDepth 100000 in
theorem m_who (l : Launch) (g : Gx) (h0 : Nat) (p0 : Int32) (m_thrown : Int32) (a_tape : Nat) (m_taped : Int32) (m_size : Int32) (m_at : Int32) (m_end : Int32) (m_token : Int32) (m_whole : Int32) (m_nameSize : Int32) (m_fault : Int32) (m_place : Int32) (m_trouble : Int32) (a_letters : Nat) (m_failed : Int32) (m_hasHouse : Int32) (a_r : Nat) (a_fresh : Nat) (a_st : Nat) (a_undone : Nat) (a_kept : Nat) (m_undos : Int32) (m_images : Int32) (a_from : Nat) (a_begin : Nat) (a_motor : Nat) (a_change : Nat) (a_startFrame : Nat) (a_changeFrame : Nat) (a_lostAt : Nat) (a_blackAt : Nat) (a_slips : Nat) (a_leftArc : Nat) (a_died : Nat) (a_arcs : Nat) (m_bestSum : Int32) (m_nearest : Int32) (m_nearestTown : Int32) (a_there : Nat) (a_backAt : Nat) (a_sorted : Nat) (a_parts : Nat) (m_seed1 : Int32) (m_darkNow : Int32) (d_r : Nat → Int32) (d_st : Nat → Int32) (hv_m_hasHouse : IV m_hasHouse 0 1) (hp_d_r : RInv d_r) : cI l g yX11_who cX11_who 2 (some .int) 2 50 0 0 [.ref h0, .int p0] [(cO11_i1r1i10r1i2r5i2r12i3r4i2 h0 m_thrown a_tape m_taped m_size m_at m_end m_token m_whole m_nameSize m_fault m_place m_trouble a_letters m_failed m_hasHouse a_r a_fresh a_st a_undone a_kept m_undos m_images a_from a_begin a_motor a_change a_startFrame a_changeFrame a_lostAt a_blackAt a_slips a_leftArc a_died a_arcs m_bestSum m_nearest m_nearestTown a_there a_backAt a_sorted a_parts m_seed1 m_darkNow), (cAI g a_r 311 d_r), (cAI g a_st 44 d_st)] (fun r w => ∃ (m_nearest2 : Int32) (m_nearestTown2 : Int32) (m_thrown2 : Int32) (m_trouble2 : Int32), w = [(cO11_i1r1i10r1i2r5i2r12i3r4i2 h0 m_thrown2 a_tape m_taped m_size m_at m_end m_token m_whole m_nameSize m_fault m_place m_trouble2 a_letters m_failed m_hasHouse a_r a_fresh a_st a_undone a_kept m_undos m_images a_from a_begin a_motor a_change a_startFrame a_changeFrame a_lostAt a_blackAt a_slips a_leftArc a_died a_arcs m_bestSum m_nearest2 m_nearestTown2 a_there a_backAt a_sorted a_parts m_seed1 m_darkNow), (cAI g a_r 311 d_r), (cAI g a_st 44 d_st)]) := by
  refine cI.of (by decide) (Nat.le_of_ble_eq_true rfl) ?_
  intro p e s m args below meth c A X hr hi
  refine k_lveq [(0, .ref h0), (1, .int p0)] rfl ?_
  refine k_aload_n X dX11_who_0 0 rfl ?_
  refine k_callVV (n := 0) (As := []) (st := []) X [(cO11_i1r1i10r1i2r5i2r12i3r4i2 h0 m_thrown a_tape m_taped m_size m_at m_end m_token m_whole m_nameSize m_fault m_place m_trouble a_letters m_failed m_hasHouse a_r a_fresh a_st a_undone a_kept m_undos m_images a_from a_begin a_motor a_change a_startFrame a_changeFrame a_lostAt a_blackAt a_slips a_leftArc a_died a_arcs m_bestSum m_nearest m_nearestTown a_there a_backAt a_sorted a_parts m_seed1 m_darkNow)] [(cAI g a_r 311 d_r), (cAI g a_st 44 d_st)] [0] [1, 2] (m_good l g h0 m_thrown a_tape m_taped m_size m_at m_end m_token m_whole m_nameSize m_fault m_place m_trouble a_letters m_failed m_hasHouse a_r a_fresh a_st a_undone a_kept m_undos m_images a_from a_begin a_motor a_change a_startFrame a_changeFrame a_lostAt a_blackAt a_slips a_leftArc a_died a_arcs m_bestSum m_nearest m_nearestTown a_there a_backAt a_sorted a_parts m_seed1 m_darkNow) dX11_who_1 mw477 mw478 mw479 mw5 mw480 rfl 11 rfl rfl 0 _ rfl yk_yX11_good_0 rfl (Nat.le_of_ble_eq_true rfl) (Nat.le_of_ble_eq_true rfl) (Nat.le_of_ble_eq_true rfl) (Nat.le_of_ble_eq_true rfl) (Nat.le_of_ble_eq_true rfl) rfl rfl (by decide) rfl (by decide) (by decide) ?_
  rintro w ⟨m_thrown2_1, m_trouble2_2, rfl⟩
  refine k_ws [(cAI g a_r 311 d_r), (cAI g a_st 44 d_st), (cO11_i1r1i10r1i2r5i2r12i3r4i2 h0 m_thrown2_1 a_tape m_taped m_size m_at m_end m_token m_whole m_nameSize m_fault m_place m_trouble2_2 a_letters m_failed m_hasHouse a_r a_fresh a_st a_undone a_kept m_undos m_images a_from a_begin a_motor a_change a_startFrame a_changeFrame a_lostAt a_blackAt a_slips a_leftArc a_died a_arcs m_bestSum m_nearest m_nearestTown a_there a_backAt a_sorted a_parts m_seed1 m_darkNow)] rfl ?_
  refine k_aload_n X dX11_who_4 0 rfl ?_
  refine k_iload_n X dX11_who_5 1 rfl ?_
  refine k_callVI (n := 1) (As := [.int p0]) (st := []) X [(cO11_i1r1i10r1i2r5i2r12i3r4i2 h0 m_thrown2_1 a_tape m_taped m_size m_at m_end m_token m_whole m_nameSize m_fault m_place m_trouble2_2 a_letters m_failed m_hasHouse a_r a_fresh a_st a_undone a_kept m_undos m_images a_from a_begin a_motor a_change a_startFrame a_changeFrame a_lostAt a_blackAt a_slips a_leftArc a_died a_arcs m_bestSum m_nearest m_nearestTown a_there a_backAt a_sorted a_parts m_seed1 m_darkNow), (cAI g a_r 311 d_r), (cAI g a_st 44 d_st)] [] [2, 0, 1] [] (m_layScratch l g h0 p0 m_thrown2_1 a_tape m_taped m_size m_at m_end m_token m_whole m_nameSize m_fault m_place m_trouble2_2 a_letters m_failed m_hasHouse a_r a_fresh a_st a_undone a_kept m_undos m_images a_from a_begin a_motor a_change a_startFrame a_changeFrame a_lostAt a_blackAt a_slips a_leftArc a_died a_arcs m_bestSum m_nearest m_nearestTown a_there a_backAt a_sorted a_parts m_seed1 m_darkNow d_r d_st (iv_w hv_m_hasHouse (by decide) (by decide)) hp_d_r) dX11_who_6 mw1201 mw1202 mw1203 mw5 mw1204 rfl 11 rfl rfl 0 _ rfl yk_yX11_layScratch_1 rfl (Nat.le_of_ble_eq_true rfl) (Nat.le_of_ble_eq_true rfl) (Nat.le_of_ble_eq_true rfl) (Nat.le_of_ble_eq_true rfl) (Nat.le_of_ble_eq_true rfl) rfl rfl (by decide) rfl (by decide) (by decide) ?_
  rintro r_6 w ⟨m_nearest2_4, m_nearestTown2_5, iv_7, rfl⟩
  refine k_ws [(cO11_i1r1i10r1i2r5i2r12i3r4i2 h0 m_thrown2_1 a_tape m_taped m_size m_at m_end m_token m_whole m_nameSize m_fault m_place m_trouble2_2 a_letters m_failed m_hasHouse a_r a_fresh a_st a_undone a_kept m_undos m_images a_from a_begin a_motor a_change a_startFrame a_changeFrame a_lostAt a_blackAt a_slips a_leftArc a_died a_arcs m_bestSum m_nearest2_4 m_nearestTown2_5 a_there a_backAt a_sorted a_parts m_seed1 m_darkNow), (cAI g a_r 311 d_r), (cAI g a_st 44 d_st)] rfl ?_
  refine k_if_eq 19 X dX11_who_9 (by decide) (fun h_8 => ?_) (fun h_8 => ?_)
  · skip
    have iv_9 : IV r_6 0 0 := iv_meet iv_7 (iv_e h_8 (show IV 0 0 0 from (by decide))) (by decide) (by decide)
    refine k_aload_n X dX11_who_19 0 rfl ?_
    refine k_iconst (v := 1) X dX11_who_20 (by decide) ?_
    refine k_callVI (n := 1) (As := [.int 1]) (st := []) X [(cO11_i1r1i10r1i2r5i2r12i3r4i2 h0 m_thrown2_1 a_tape m_taped m_size m_at m_end m_token m_whole m_nameSize m_fault m_place m_trouble2_2 a_letters m_failed m_hasHouse a_r a_fresh a_st a_undone a_kept m_undos m_images a_from a_begin a_motor a_change a_startFrame a_changeFrame a_lostAt a_blackAt a_slips a_leftArc a_died a_arcs m_bestSum m_nearest2_4 m_nearestTown2_5 a_there a_backAt a_sorted a_parts m_seed1 m_darkNow)] [(cAI g a_r 311 d_r), (cAI g a_st 44 d_st)] [0] [1, 2] (m_no l g h0 1 m_thrown2_1 a_tape m_taped m_size m_at m_end m_token m_whole m_nameSize m_fault m_place m_trouble2_2 a_letters m_failed m_hasHouse a_r a_fresh a_st a_undone a_kept m_undos m_images a_from a_begin a_motor a_change a_startFrame a_changeFrame a_lostAt a_blackAt a_slips a_leftArc a_died a_arcs m_bestSum m_nearest2_4 m_nearestTown2_5 a_there a_backAt a_sorted a_parts m_seed1 m_darkNow) dX11_who_21 mw485 mw486 mw487 mw5 mw488 rfl 11 rfl rfl 0 _ rfl yk_yX11_no_1 rfl (Nat.le_of_ble_eq_true rfl) (Nat.le_of_ble_eq_true rfl) (Nat.le_of_ble_eq_true rfl) (Nat.le_of_ble_eq_true rfl) (Nat.le_of_ble_eq_true rfl) rfl rfl (by decide) rfl (by decide) (by decide) ?_
    rintro r_11 w ⟨m_trouble2_10, iv_12, rfl⟩
    refine k_ws [(cAI g a_r 311 d_r), (cAI g a_st 44 d_st), (cO11_i1r1i10r1i2r5i2r12i3r4i2 h0 m_thrown2_1 a_tape m_taped m_size m_at m_end m_token m_whole m_nameSize m_fault m_place m_trouble2_10 a_letters m_failed m_hasHouse a_r a_fresh a_st a_undone a_kept m_undos m_images a_from a_begin a_motor a_change a_startFrame a_changeFrame a_lostAt a_blackAt a_slips a_leftArc a_died a_arcs m_bestSum m_nearest2_4 m_nearestTown2_5 a_there a_backAt a_sorted a_parts m_seed1 m_darkNow)] rfl ?_
    exact k_iret X hr dX11_who_24 (Nat.le_of_ble_eq_true rfl) (Nat.le_of_ble_eq_true rfl) [2, 0, 1] (by decide) rfl rfl ⟨m_nearest2_4, m_nearestTown2_5, m_thrown2_1, m_trouble2_10, rfl⟩
  · skip
    have iv_13 : IV r_6 1 1 := iv_neL h_8 iv_7 (show IV 0 0 0 from (by decide)) (by decide)
    refine k_aload_n X dX11_who_12 0 rfl ?_
    refine k_get (ci := 11) X inlX11 rfl 36 (by decide) dX11_who_13 mw1200 0 rfl rfl ?_
    refine k_goto 24 X dX11_who_16 (by decide) ?_
    exact k_iret X hr dX11_who_24 (Nat.le_of_ble_eq_true rfl) (Nat.le_of_ble_eq_true rfl) [0, 1, 2] (by decide) rfl rfl ⟨m_nearest2_4, m_nearestTown2_5, m_thrown2_1, m_trouble2_2, rfl⟩

theorem dX11_far_0 : decode cX11_far 0 = .ok (.aload_n 0, 1) := dk_42 rfl
theorem dX11_far_1 : decode cX11_far 1 = .ok (.invokevirtual 200, 3) := dk_182 rfl rfl rfl rfl
theorem dX11_far_4 : decode cX11_far 4 = .ok (.aload_n 0, 1) := dk_42 rfl
theorem dX11_far_5 : decode cX11_far 5 = .ok (.iload_n 1, 1) := dk_27 rfl
theorem dX11_far_6 : decode cX11_far 6 = .ok (.invokevirtual 440, 3) := dk_182 rfl rfl rfl rfl
theorem dX11_far_9 : decode cX11_far 9 = .ok (.ifCond .eq 10, 3) := dk_153 rfl rfl rfl (by decide)
theorem dX11_far_12 : decode cX11_far 12 = .ok (.aload_n 0, 1) := dk_42 rfl
theorem dX11_far_13 : decode cX11_far 13 = .ok (.getfield 431, 3) := dk_180 rfl rfl rfl rfl
theorem dX11_far_16 : decode cX11_far 16 = .ok (.goto 8, 3) := dk_167 rfl rfl rfl (by decide)
theorem dX11_far_19 : decode cX11_far 19 = .ok (.aload_n 0, 1) := dk_42 rfl
theorem dX11_far_20 : decode cX11_far 20 = .ok (.iconst 1, 1) := dk_4 rfl
theorem dX11_far_21 : decode cX11_far 21 = .ok (.invokevirtual 203, 3) := dk_182 rfl rfl rfl rfl
theorem dX11_far_24 : decode cX11_far 24 = .ok (.ireturn, 1) := dk_172 rfl
set_option maxHeartbeats 4000000 in
set_option maxRecDepth 100000 in
theorem m_far (l : Launch) (g : Gx) (h0 : Nat) (p0 : Int32) (m_thrown : Int32) (a_tape : Nat) (m_taped : Int32) (m_size : Int32) (m_at : Int32) (m_end : Int32) (m_token : Int32) (m_whole : Int32) (m_nameSize : Int32) (m_fault : Int32) (m_place : Int32) (m_trouble : Int32) (a_letters : Nat) (m_failed : Int32) (m_hasHouse : Int32) (a_r : Nat) (a_fresh : Nat) (a_st : Nat) (a_undone : Nat) (a_kept : Nat) (m_undos : Int32) (m_images : Int32) (a_from : Nat) (a_begin : Nat) (a_motor : Nat) (a_change : Nat) (a_startFrame : Nat) (a_changeFrame : Nat) (a_lostAt : Nat) (a_blackAt : Nat) (a_slips : Nat) (a_leftArc : Nat) (a_died : Nat) (a_arcs : Nat) (m_bestSum : Int32) (m_nearest : Int32) (m_nearestTown : Int32) (a_there : Nat) (a_backAt : Nat) (a_sorted : Nat) (a_parts : Nat) (m_seed1 : Int32) (m_darkNow : Int32) (d_r : Nat → Int32) (d_st : Nat → Int32) (hv_m_hasHouse : IV m_hasHouse 0 1) (hp_d_r : RInv d_r) : cI l g yX11_far cX11_far 2 (some .int) 2 50 0 0 [.ref h0, .int p0] [(cO11_i1r1i10r1i2r5i2r12i3r4i2 h0 m_thrown a_tape m_taped m_size m_at m_end m_token m_whole m_nameSize m_fault m_place m_trouble a_letters m_failed m_hasHouse a_r a_fresh a_st a_undone a_kept m_undos m_images a_from a_begin a_motor a_change a_startFrame a_changeFrame a_lostAt a_blackAt a_slips a_leftArc a_died a_arcs m_bestSum m_nearest m_nearestTown a_there a_backAt a_sorted a_parts m_seed1 m_darkNow), (cAI g a_r 311 d_r), (cAI g a_st 44 d_st)] (fun r w => ∃ (m_nearest2 : Int32) (m_nearestTown2 : Int32) (m_thrown2 : Int32) (m_trouble2 : Int32), w = [(cO11_i1r1i10r1i2r5i2r12i3r4i2 h0 m_thrown2 a_tape m_taped m_size m_at m_end m_token m_whole m_nameSize m_fault m_place m_trouble2 a_letters m_failed m_hasHouse a_r a_fresh a_st a_undone a_kept m_undos m_images a_from a_begin a_motor a_change a_startFrame a_changeFrame a_lostAt a_blackAt a_slips a_leftArc a_died a_arcs m_bestSum m_nearest2 m_nearestTown2 a_there a_backAt a_sorted a_parts m_seed1 m_darkNow), (cAI g a_r 311 d_r), (cAI g a_st 44 d_st)]) := by
  refine cI.of (by decide) (Nat.le_of_ble_eq_true rfl) ?_
  intro p e s m args below meth c A X hr hi
  refine k_lveq [(0, .ref h0), (1, .int p0)] rfl ?_
  refine k_aload_n X dX11_far_0 0 rfl ?_
  refine k_callVV (n := 0) (As := []) (st := []) X [(cO11_i1r1i10r1i2r5i2r12i3r4i2 h0 m_thrown a_tape m_taped m_size m_at m_end m_token m_whole m_nameSize m_fault m_place m_trouble a_letters m_failed m_hasHouse a_r a_fresh a_st a_undone a_kept m_undos m_images a_from a_begin a_motor a_change a_startFrame a_changeFrame a_lostAt a_blackAt a_slips a_leftArc a_died a_arcs m_bestSum m_nearest m_nearestTown a_there a_backAt a_sorted a_parts m_seed1 m_darkNow)] [(cAI g a_r 311 d_r), (cAI g a_st 44 d_st)] [0] [1, 2] (m_good l g h0 m_thrown a_tape m_taped m_size m_at m_end m_token m_whole m_nameSize m_fault m_place m_trouble a_letters m_failed m_hasHouse a_r a_fresh a_st a_undone a_kept m_undos m_images a_from a_begin a_motor a_change a_startFrame a_changeFrame a_lostAt a_blackAt a_slips a_leftArc a_died a_arcs m_bestSum m_nearest m_nearestTown a_there a_backAt a_sorted a_parts m_seed1 m_darkNow) dX11_far_1 mw477 mw478 mw479 mw5 mw480 rfl 11 rfl rfl 0 _ rfl yk_yX11_good_0 rfl (Nat.le_of_ble_eq_true rfl) (Nat.le_of_ble_eq_true rfl) (Nat.le_of_ble_eq_true rfl) (Nat.le_of_ble_eq_true rfl) (Nat.le_of_ble_eq_true rfl) rfl rfl (by decide) rfl (by decide) (by decide) ?_
  rintro w ⟨m_thrown2_1, m_trouble2_2, rfl⟩
  refine k_ws [(cAI g a_r 311 d_r), (cAI g a_st 44 d_st), (cO11_i1r1i10r1i2r5i2r12i3r4i2 h0 m_thrown2_1 a_tape m_taped m_size m_at m_end m_token m_whole m_nameSize m_fault m_place m_trouble2_2 a_letters m_failed m_hasHouse a_r a_fresh a_st a_undone a_kept m_undos m_images a_from a_begin a_motor a_change a_startFrame a_changeFrame a_lostAt a_blackAt a_slips a_leftArc a_died a_arcs m_bestSum m_nearest m_nearestTown a_there a_backAt a_sorted a_parts m_seed1 m_darkNow)] rfl ?_
  refine k_aload_n X dX11_far_4 0 rfl ?_
  refine k_iload_n X dX11_far_5 1 rfl ?_
  refine k_callVI (n := 1) (As := [.int p0]) (st := []) X [(cO11_i1r1i10r1i2r5i2r12i3r4i2 h0 m_thrown2_1 a_tape m_taped m_size m_at m_end m_token m_whole m_nameSize m_fault m_place m_trouble2_2 a_letters m_failed m_hasHouse a_r a_fresh a_st a_undone a_kept m_undos m_images a_from a_begin a_motor a_change a_startFrame a_changeFrame a_lostAt a_blackAt a_slips a_leftArc a_died a_arcs m_bestSum m_nearest m_nearestTown a_there a_backAt a_sorted a_parts m_seed1 m_darkNow), (cAI g a_r 311 d_r), (cAI g a_st 44 d_st)] [] [2, 0, 1] [] (m_layScratch l g h0 p0 m_thrown2_1 a_tape m_taped m_size m_at m_end m_token m_whole m_nameSize m_fault m_place m_trouble2_2 a_letters m_failed m_hasHouse a_r a_fresh a_st a_undone a_kept m_undos m_images a_from a_begin a_motor a_change a_startFrame a_changeFrame a_lostAt a_blackAt a_slips a_leftArc a_died a_arcs m_bestSum m_nearest m_nearestTown a_there a_backAt a_sorted a_parts m_seed1 m_darkNow d_r d_st (iv_w hv_m_hasHouse (by decide) (by decide)) hp_d_r) dX11_far_6 mw1201 mw1202 mw1203 mw5 mw1204 rfl 11 rfl rfl 0 _ rfl yk_yX11_layScratch_1 rfl (Nat.le_of_ble_eq_true rfl) (Nat.le_of_ble_eq_true rfl) (Nat.le_of_ble_eq_true rfl) (Nat.le_of_ble_eq_true rfl) (Nat.le_of_ble_eq_true rfl) rfl rfl (by decide) rfl (by decide) (by decide) ?_
  rintro r_6 w ⟨m_nearest2_4, m_nearestTown2_5, iv_7, rfl⟩
  refine k_ws [(cO11_i1r1i10r1i2r5i2r12i3r4i2 h0 m_thrown2_1 a_tape m_taped m_size m_at m_end m_token m_whole m_nameSize m_fault m_place m_trouble2_2 a_letters m_failed m_hasHouse a_r a_fresh a_st a_undone a_kept m_undos m_images a_from a_begin a_motor a_change a_startFrame a_changeFrame a_lostAt a_blackAt a_slips a_leftArc a_died a_arcs m_bestSum m_nearest2_4 m_nearestTown2_5 a_there a_backAt a_sorted a_parts m_seed1 m_darkNow), (cAI g a_r 311 d_r), (cAI g a_st 44 d_st)] rfl ?_
  refine k_if_eq 19 X dX11_far_9 (by decide) (fun h_8 => ?_) (fun h_8 => ?_)
  · skip
    have iv_9 : IV r_6 0 0 := iv_meet iv_7 (iv_e h_8 (show IV 0 0 0 from (by decide))) (by decide) (by decide)
    refine k_aload_n X dX11_far_19 0 rfl ?_
    refine k_iconst (v := 1) X dX11_far_20 (by decide) ?_
    refine k_callVI (n := 1) (As := [.int 1]) (st := []) X [(cO11_i1r1i10r1i2r5i2r12i3r4i2 h0 m_thrown2_1 a_tape m_taped m_size m_at m_end m_token m_whole m_nameSize m_fault m_place m_trouble2_2 a_letters m_failed m_hasHouse a_r a_fresh a_st a_undone a_kept m_undos m_images a_from a_begin a_motor a_change a_startFrame a_changeFrame a_lostAt a_blackAt a_slips a_leftArc a_died a_arcs m_bestSum m_nearest2_4 m_nearestTown2_5 a_there a_backAt a_sorted a_parts m_seed1 m_darkNow)] [(cAI g a_r 311 d_r), (cAI g a_st 44 d_st)] [0] [1, 2] (m_no l g h0 1 m_thrown2_1 a_tape m_taped m_size m_at m_end m_token m_whole m_nameSize m_fault m_place m_trouble2_2 a_letters m_failed m_hasHouse a_r a_fresh a_st a_undone a_kept m_undos m_images a_from a_begin a_motor a_change a_startFrame a_changeFrame a_lostAt a_blackAt a_slips a_leftArc a_died a_arcs m_bestSum m_nearest2_4 m_nearestTown2_5 a_there a_backAt a_sorted a_parts m_seed1 m_darkNow) dX11_far_21 mw485 mw486 mw487 mw5 mw488 rfl 11 rfl rfl 0 _ rfl yk_yX11_no_1 rfl (Nat.le_of_ble_eq_true rfl) (Nat.le_of_ble_eq_true rfl) (Nat.le_of_ble_eq_true rfl) (Nat.le_of_ble_eq_true rfl) (Nat.le_of_ble_eq_true rfl) rfl rfl (by decide) rfl (by decide) (by decide) ?_
    rintro r_11 w ⟨m_trouble2_10, iv_12, rfl⟩
    refine k_ws [(cAI g a_r 311 d_r), (cAI g a_st 44 d_st), (cO11_i1r1i10r1i2r5i2r12i3r4i2 h0 m_thrown2_1 a_tape m_taped m_size m_at m_end m_token m_whole m_nameSize m_fault m_place m_trouble2_10 a_letters m_failed m_hasHouse a_r a_fresh a_st a_undone a_kept m_undos m_images a_from a_begin a_motor a_change a_startFrame a_changeFrame a_lostAt a_blackAt a_slips a_leftArc a_died a_arcs m_bestSum m_nearest2_4 m_nearestTown2_5 a_there a_backAt a_sorted a_parts m_seed1 m_darkNow)] rfl ?_
    exact k_iret X hr dX11_far_24 (Nat.le_of_ble_eq_true rfl) (Nat.le_of_ble_eq_true rfl) [2, 0, 1] (by decide) rfl rfl ⟨m_nearest2_4, m_nearestTown2_5, m_thrown2_1, m_trouble2_10, rfl⟩
  · skip
    have iv_13 : IV r_6 1 1 := iv_neL h_8 iv_7 (show IV 0 0 0 from (by decide)) (by decide)
    refine k_aload_n X dX11_far_12 0 rfl ?_
    refine k_get (ci := 11) X inlX11 rfl 35 (by decide) dX11_far_13 mw1205 0 rfl rfl ?_
    refine k_goto 24 X dX11_far_16 (by decide) ?_
    exact k_iret X hr dX11_far_24 (Nat.le_of_ble_eq_true rfl) (Nat.le_of_ble_eq_true rfl) [0, 1, 2] (by decide) rfl rfl ⟨m_nearest2_4, m_nearestTown2_5, m_thrown2_1, m_trouble2_2, rfl⟩

theorem dX11_carry_0 : decode cX11_carry 0 = .ok (.aload_n 0, 1) := dk_42 rfl
theorem dX11_carry_1 : decode cX11_carry 1 = .ok (.iload_n 1, 1) := dk_27 rfl
theorem dX11_carry_2 : decode cX11_carry 2 = .ok (.invokevirtual 373, 3) := dk_182 rfl rfl rfl rfl
theorem dX11_carry_5 : decode cX11_carry 5 = .ok (.iconst 0, 1) := dk_3 rfl
theorem dX11_carry_6 : decode cX11_carry 6 = .ok (.istore_n 3, 1) := dk_62 rfl
theorem dX11_carry_7 : decode cX11_carry 7 = .ok (.iload_n 3, 1) := dk_29 rfl
theorem dX11_carry_8 : decode cX11_carry 8 = .ok (.iconst 4, 1) := dk_7 rfl
theorem dX11_carry_9 : decode cX11_carry 9 = .ok (.if_icmp .ge 16, 3) := dk_162 rfl rfl rfl (by decide)
theorem dX11_carry_12 : decode cX11_carry 12 = .ok (.aload_n 0, 1) := dk_42 rfl
theorem dX11_carry_13 : decode cX11_carry 13 = .ok (.getfield 74, 3) := dk_180 rfl rfl rfl rfl
theorem dX11_carry_16 : decode cX11_carry 16 = .ok (.iload_n 3, 1) := dk_29 rfl
theorem dX11_carry_17 : decode cX11_carry 17 = .ok (.iconst 0, 1) := dk_3 rfl
theorem dX11_carry_18 : decode cX11_carry 18 = .ok (.iastore, 1) := dk_79 rfl
theorem dX11_carry_19 : decode cX11_carry 19 = .ok (.iinc 3 1, 3) := dk_132 rfl rfl rfl rfl (by decide)
theorem dX11_carry_22 : decode cX11_carry 22 = .ok (.goto (-15), 3) := dk_167 rfl rfl rfl (by decide)
theorem dX11_carry_25 : decode cX11_carry 25 = .ok (.iconst 0, 1) := dk_3 rfl
theorem dX11_carry_26 : decode cX11_carry 26 = .ok (.istore_n 3, 1) := dk_62 rfl
theorem dX11_carry_27 : decode cX11_carry 27 = .ok (.iload_n 3, 1) := dk_29 rfl
theorem dX11_carry_28 : decode cX11_carry 28 = .ok (.aload_n 0, 1) := dk_42 rfl
theorem dX11_carry_29 : decode cX11_carry 29 = .ok (.getfield 20, 3) := dk_180 rfl rfl rfl rfl
theorem dX11_carry_32 : decode cX11_carry 32 = .ok (.bipush 12, 2) := dk_16 rfl rfl (by decide)
theorem dX11_carry_34 : decode cX11_carry 34 = .ok (.iaload, 1) := dk_46 rfl
theorem dX11_carry_35 : decode cX11_carry 35 = .ok (.if_icmp .ge 110, 3) := dk_162 rfl rfl rfl (by decide)
theorem dX11_carry_38 : decode cX11_carry 38 = .ok (.iconst 0, 1) := dk_3 rfl
theorem dX11_carry_39 : decode cX11_carry 39 = .ok (.istore 4, 2) := dk_54 rfl rfl rfl
theorem dX11_carry_41 : decode cX11_carry 41 = .ok (.iconst 1, 1) := dk_4 rfl
theorem dX11_carry_42 : decode cX11_carry 42 = .ok (.istore 5, 2) := dk_54 rfl rfl rfl
theorem dX11_carry_44 : decode cX11_carry 44 = .ok (.iload 5, 2) := dk_21 rfl rfl rfl
theorem dX11_carry_46 : decode cX11_carry 46 = .ok (.iload_n 2, 1) := dk_28 rfl
theorem dX11_carry_47 : decode cX11_carry 47 = .ok (.if_icmp .ge 35, 3) := dk_162 rfl rfl rfl (by decide)
theorem dX11_carry_50 : decode cX11_carry 50 = .ok (.aload_n 0, 1) := dk_42 rfl
theorem dX11_carry_51 : decode cX11_carry 51 = .ok (.getfield 74, 3) := dk_180 rfl rfl rfl rfl
theorem dX11_carry_54 : decode cX11_carry 54 = .ok (.iload 5, 2) := dk_21 rfl rfl rfl
theorem dX11_carry_56 : decode cX11_carry 56 = .ok (.iaload, 1) := dk_46 rfl
theorem dX11_carry_57 : decode cX11_carry 57 = .ok (.aload_n 0, 1) := dk_42 rfl
theorem dX11_carry_58 : decode cX11_carry 58 = .ok (.getfield 74, 3) := dk_180 rfl rfl rfl rfl
theorem dX11_carry_61 : decode cX11_carry 61 = .ok (.iload 4, 2) := dk_21 rfl rfl rfl
theorem dX11_carry_63 : decode cX11_carry 63 = .ok (.iaload, 1) := dk_46 rfl
theorem dX11_carry_64 : decode cX11_carry 64 = .ok (.if_icmp .ge 8, 3) := dk_162 rfl rfl rfl (by decide)
theorem dX11_carry_67 : decode cX11_carry 67 = .ok (.iload 5, 2) := dk_21 rfl rfl rfl
theorem dX11_carry_69 : decode cX11_carry 69 = .ok (.goto 5, 3) := dk_167 rfl rfl rfl (by decide)
theorem dX11_carry_72 : decode cX11_carry 72 = .ok (.iload 4, 2) := dk_21 rfl rfl rfl
theorem dX11_carry_74 : decode cX11_carry 74 = .ok (.istore 4, 2) := dk_54 rfl rfl rfl
theorem dX11_carry_76 : decode cX11_carry 76 = .ok (.iinc 5 1, 3) := dk_132 rfl rfl rfl rfl (by decide)
theorem dX11_carry_79 : decode cX11_carry 79 = .ok (.goto (-35), 3) := dk_167 rfl rfl rfl (by decide)
theorem dX11_carry_82 : decode cX11_carry 82 = .ok (.aload_n 0, 1) := dk_42 rfl
theorem dX11_carry_83 : decode cX11_carry 83 = .ok (.getfield 44, 3) := dk_180 rfl rfl rfl rfl
theorem dX11_carry_86 : decode cX11_carry 86 = .ok (.iload_n 3, 1) := dk_29 rfl
theorem dX11_carry_87 : decode cX11_carry 87 = .ok (.iaload, 1) := dk_46 rfl
theorem dX11_carry_88 : decode cX11_carry 88 = .ok (.aload_n 0, 1) := dk_42 rfl
theorem dX11_carry_89 : decode cX11_carry 89 = .ok (.getfield 74, 3) := dk_180 rfl rfl rfl rfl
theorem dX11_carry_92 : decode cX11_carry 92 = .ok (.iload 4, 2) := dk_21 rfl rfl rfl
theorem dX11_carry_94 : decode cX11_carry 94 = .ok (.iaload, 1) := dk_46 rfl
theorem dX11_carry_95 : decode cX11_carry 95 = .ok (.invokestatic 351, 3) := dk_184 rfl rfl rfl rfl
theorem dX11_carry_98 : decode cX11_carry 98 = .ok (.istore 5, 2) := by decide +kernel
theorem dX11_carry_100 : decode cX11_carry 100 = .ok (.aload_n 0, 1) := by decide +kernel
theorem dX11_carry_101 : decode cX11_carry 101 = .ok (.getfield 71, 3) := by decide +kernel
theorem dX11_carry_104 : decode cX11_carry 104 = .ok (.iload_n 3, 1) := by decide +kernel
theorem dX11_carry_105 : decode cX11_carry 105 = .ok (.iload 5, 2) := by decide +kernel
theorem dX11_carry_107 : decode cX11_carry 107 = .ok (.aload_n 0, 1) := by decide +kernel
theorem dX11_carry_108 : decode cX11_carry 108 = .ok (.getfield 20, 3) := by decide +kernel
theorem dX11_carry_111 : decode cX11_carry 111 = .ok (.sipush 135, 3) := by decide +kernel
theorem dX11_carry_114 : decode cX11_carry 114 = .ok (.iaload, 1) := by decide +kernel
theorem dX11_carry_115 : decode cX11_carry 115 = .ok (.iadd, 1) := by decide +kernel
theorem dX11_carry_116 : decode cX11_carry 116 = .ok (.iastore, 1) := by decide +kernel
theorem dX11_carry_117 : decode cX11_carry 117 = .ok (.aload_n 0, 1) := by decide +kernel
theorem dX11_carry_118 : decode cX11_carry 118 = .ok (.getfield 74, 3) := by decide +kernel
theorem dX11_carry_121 : decode cX11_carry 121 = .ok (.iload 4, 2) := by decide +kernel
theorem dX11_carry_123 : decode cX11_carry 123 = .ok (.aload_n 0, 1) := by decide +kernel
theorem dX11_carry_124 : decode cX11_carry 124 = .ok (.getfield 71, 3) := by decide +kernel
theorem dX11_carry_127 : decode cX11_carry 127 = .ok (.iload_n 3, 1) := by decide +kernel
theorem dX11_carry_128 : decode cX11_carry 128 = .ok (.iaload, 1) := by decide +kernel
theorem dX11_carry_129 : decode cX11_carry 129 = .ok (.aload_n 0, 1) := by decide +kernel
theorem dX11_carry_130 : decode cX11_carry 130 = .ok (.getfield 20, 3) := by decide +kernel
theorem dX11_carry_133 : decode cX11_carry 133 = .ok (.sipush 135, 3) := by decide +kernel
theorem dX11_carry_136 : decode cX11_carry 136 = .ok (.iaload, 1) := by decide +kernel
theorem dX11_carry_137 : decode cX11_carry 137 = .ok (.iadd, 1) := by decide +kernel
theorem dX11_carry_138 : decode cX11_carry 138 = .ok (.iastore, 1) := by decide +kernel
theorem dX11_carry_139 : decode cX11_carry 139 = .ok (.iinc 3 1, 3) := by decide +kernel
theorem dX11_carry_142 : decode cX11_carry 142 = .ok (.goto (-115), 3) := by decide +kernel
theorem dX11_carry_145 : decode cX11_carry 145 = .ok (.return_, 1) := by decide +kernel
set_option maxHeartbeats 4000000 in
set_option maxRecDepth 100000 in
theorem m_carry (l : Launch) (g : Gx) (h0 : Nat) (p0 : Int32) (p1 : Int32) (m_thrown : Int32) (a_tape : Nat) (m_taped : Int32) (m_size : Int32) (m_at : Int32) (m_end : Int32) (m_token : Int32) (m_whole : Int32) (m_nameSize : Int32) (m_fault : Int32) (m_place : Int32) (m_trouble : Int32) (a_letters : Nat) (m_failed : Int32) (m_hasHouse : Int32) (a_r : Nat) (a_fresh : Nat) (a_st : Nat) (a_undone : Nat) (a_kept : Nat) (m_undos : Int32) (m_images : Int32) (a_from : Nat) (a_begin : Nat) (a_motor : Nat) (a_change : Nat) (a_startFrame : Nat) (a_changeFrame : Nat) (a_lostAt : Nat) (a_blackAt : Nat) (a_slips : Nat) (a_leftArc : Nat) (a_died : Nat) (a_arcs : Nat) (m_bestSum : Int32) (m_nearest : Int32) (m_nearestTown : Int32) (a_there : Nat) (a_backAt : Nat) (a_sorted : Nat) (a_parts : Nat) (m_seed1 : Int32) (m_darkNow : Int32) (d_r : Nat → Int32) (d_st : Nat → Int32) (d_from : Nat → Int32) (d_begin : Nat → Int32) (d_motor : Nat → Int32) (d_change : Nat → Int32) (d_startFrame : Nat → Int32) (d_changeFrame : Nat → Int32) (d_lostAt : Nat → Int32) (d_blackAt : Nat → Int32) (d_slips : Nat → Int32) (d_there : Nat → Int32) (d_backAt : Nat → Int32) (hv_p0 : IV p0 0 3) (hv_p1 : IV p1 0 4) (hp_d_r : RInv d_r) : cV l g yX11_carry cX11_carry 6 5 110 0 0 [.ref h0, .int p0, .int p1] [(cO11_i1r1i10r1i2r5i2r12i3r4i2 h0 m_thrown a_tape m_taped m_size m_at m_end m_token m_whole m_nameSize m_fault m_place m_trouble a_letters m_failed m_hasHouse a_r a_fresh a_st a_undone a_kept m_undos m_images a_from a_begin a_motor a_change a_startFrame a_changeFrame a_lostAt a_blackAt a_slips a_leftArc a_died a_arcs m_bestSum m_nearest m_nearestTown a_there a_backAt a_sorted a_parts m_seed1 m_darkNow), (cAI g a_r 311 d_r), (cAI g a_st 44 d_st), (cAI g a_from 8 d_from), (cAI g a_begin 8 d_begin), (cAI g a_motor 8 d_motor), (cAI g a_change 8 d_change), (cAI g a_startFrame 8 d_startFrame), (cAI g a_changeFrame 8 d_changeFrame), (cAI g a_lostAt 8 d_lostAt), (cAI g a_blackAt 8 d_blackAt), (cAI g a_slips 8 d_slips), (cAI g a_there 8 d_there), (cAI g a_backAt 4 d_backAt)] (fun w => ∃ (d_backAt2 : Nat → Int32) (d_begin2 : Nat → Int32) (d_blackAt2 : Nat → Int32) (d_change2 : Nat → Int32) (d_changeFrame2 : Nat → Int32) (d_from2 : Nat → Int32) (d_lostAt2 : Nat → Int32) (d_motor2 : Nat → Int32) (d_slips2 : Nat → Int32) (d_startFrame2 : Nat → Int32) (d_there2 : Nat → Int32), w = [(cO11_i1r1i10r1i2r5i2r12i3r4i2 h0 m_thrown a_tape m_taped m_size m_at m_end m_token m_whole m_nameSize m_fault m_place m_trouble a_letters m_failed m_hasHouse a_r a_fresh a_st a_undone a_kept m_undos m_images a_from a_begin a_motor a_change a_startFrame a_changeFrame a_lostAt a_blackAt a_slips a_leftArc a_died a_arcs m_bestSum m_nearest m_nearestTown a_there a_backAt a_sorted a_parts m_seed1 m_darkNow), (cAI g a_r 311 d_r), (cAI g a_st 44 d_st), (cAI g a_from 8 d_from2), (cAI g a_begin 8 d_begin2), (cAI g a_motor 8 d_motor2), (cAI g a_change 8 d_change2), (cAI g a_startFrame 8 d_startFrame2), (cAI g a_changeFrame 8 d_changeFrame2), (cAI g a_lostAt 8 d_lostAt2), (cAI g a_blackAt 8 d_blackAt2), (cAI g a_slips 8 d_slips2), (cAI g a_there 8 d_there2), (cAI g a_backAt 4 d_backAt2)]) := by
  refine cV.of (by decide) (Nat.le_of_ble_eq_true rfl) ?_
  intro p e s m args below meth c A X hr hi
  refine k_lveq [(0, .ref h0), (1, .int p0), (2, .int p1)] rfl ?_
  refine k_aload_n X dX11_carry_0 0 rfl ?_
  refine k_iload_n X dX11_carry_1 1 rfl ?_
  refine k_callVV (n := 1) (As := [.int p0]) (st := []) X [(cO11_i1r1i10r1i2r5i2r12i3r4i2 h0 m_thrown a_tape m_taped m_size m_at m_end m_token m_whole m_nameSize m_fault m_place m_trouble a_letters m_failed m_hasHouse a_r a_fresh a_st a_undone a_kept m_undos m_images a_from a_begin a_motor a_change a_startFrame a_changeFrame a_lostAt a_blackAt a_slips a_leftArc a_died a_arcs m_bestSum m_nearest m_nearestTown a_there a_backAt a_sorted a_parts m_seed1 m_darkNow), (cAI g a_r 311 d_r), (cAI g a_st 44 d_st), (cAI g a_from 8 d_from), (cAI g a_begin 8 d_begin), (cAI g a_motor 8 d_motor), (cAI g a_change 8 d_change), (cAI g a_startFrame 8 d_startFrame), (cAI g a_changeFrame 8 d_changeFrame), (cAI g a_lostAt 8 d_lostAt), (cAI g a_blackAt 8 d_blackAt), (cAI g a_slips 8 d_slips)] [(cAI g a_there 8 d_there), (cAI g a_backAt 4 d_backAt)] [0, 1, 2, 3, 4, 5, 6, 7, 8, 9, 10, 11] [12, 13] (m_layTold l g h0 p0 m_thrown a_tape m_taped m_size m_at m_end m_token m_whole m_nameSize m_fault m_place m_trouble a_letters m_failed m_hasHouse a_r a_fresh a_st a_undone a_kept m_undos m_images a_from a_begin a_motor a_change a_startFrame a_changeFrame a_lostAt a_blackAt a_slips a_leftArc a_died a_arcs m_bestSum m_nearest m_nearestTown a_there a_backAt a_sorted a_parts m_seed1 m_darkNow d_r d_st d_from d_begin d_motor d_change d_startFrame d_changeFrame d_lostAt d_blackAt d_slips (iv_w hv_p0 (by decide) (by decide)) hp_d_r) dX11_carry_2 mw815 mw816 mw817 mw5 mw818 rfl 11 rfl rfl 0 _ rfl yk_yX11_layTold_1 rfl (Nat.le_of_ble_eq_true rfl) (Nat.le_of_ble_eq_true rfl) (Nat.le_of_ble_eq_true rfl) (Nat.le_of_ble_eq_true rfl) (Nat.le_of_ble_eq_true rfl) rfl rfl (by decide +kernel) rfl (by decide +kernel) (by decide +kernel) ?_
  rintro w ⟨d_begin2_1, d_blackAt2_2, d_change2_3, d_changeFrame2_4, d_from2_5, d_lostAt2_6, d_motor2_7, d_slips2_8, d_startFrame2_9, rfl⟩
  refine k_ws [(cAI g a_there 8 d_there), (cAI g a_backAt 4 d_backAt), (cO11_i1r1i10r1i2r5i2r12i3r4i2 h0 m_thrown a_tape m_taped m_size m_at m_end m_token m_whole m_nameSize m_fault m_place m_trouble a_letters m_failed m_hasHouse a_r a_fresh a_st a_undone a_kept m_undos m_images a_from a_begin a_motor a_change a_startFrame a_changeFrame a_lostAt a_blackAt a_slips a_leftArc a_died a_arcs m_bestSum m_nearest m_nearestTown a_there a_backAt a_sorted a_parts m_seed1 m_darkNow), (cAI g a_r 311 d_r), (cAI g a_st 44 d_st), (cAI g a_from 8 d_from2_5), (cAI g a_begin 8 d_begin2_1), (cAI g a_motor 8 d_motor2_7), (cAI g a_change 8 d_change2_3), (cAI g a_startFrame 8 d_startFrame2_9), (cAI g a_changeFrame 8 d_changeFrame2_4), (cAI g a_lostAt 8 d_lostAt2_6), (cAI g a_blackAt 8 d_blackAt2_2), (cAI g a_slips 8 d_slips2_8)] rfl ?_
  refine k_iconst (v := 0) X dX11_carry_5 (by decide) ?_
  refine k_istore_n [(3, .int 0), (0, .ref h0), (1, .int p0), (2, .int p1)] X dX11_carry_6 (by decide) rfl ?_
  refine (fun hL : ∀ (nn_14 : Nat) (uf_11 : Nat → Int32) (u_12 : Int32), (4 - u_12.toInt).toNat = nn_14 → (IV u_12 0 8) → Wk p l e _ s m args below meth c _ A g _ _ _ [(cAI g a_there 8 d_there), (cAI g a_backAt 4 uf_11), (cO11_i1r1i10r1i2r5i2r12i3r4i2 h0 m_thrown a_tape m_taped m_size m_at m_end m_token m_whole m_nameSize m_fault m_place m_trouble a_letters m_failed m_hasHouse a_r a_fresh a_st a_undone a_kept m_undos m_images a_from a_begin a_motor a_change a_startFrame a_changeFrame a_lostAt a_blackAt a_slips a_leftArc a_died a_arcs m_bestSum m_nearest m_nearestTown a_there a_backAt a_sorted a_parts m_seed1 m_darkNow), (cAI g a_r 311 d_r), (cAI g a_st 44 d_st), (cAI g a_from 8 d_from2_5), (cAI g a_begin 8 d_begin2_1), (cAI g a_motor 8 d_motor2_7), (cAI g a_change 8 d_change2_3), (cAI g a_startFrame 8 d_startFrame2_9), (cAI g a_changeFrame 8 d_changeFrame2_4), (cAI g a_lostAt 8 d_lostAt2_6), (cAI g a_blackAt 8 d_blackAt2_2), (cAI g a_slips 8 d_slips2_8)] [(3, .int u_12), (0, .ref h0), (1, .int p0), (2, .int p1)] 7 [] => hL _ d_backAt 0 rfl (iv_w (show IV 0 0 0 from (by decide)) (by decide) (by decide))) ?_
  refine fun nn_14 => Nat.strongRecOn nn_14 (fun nn_14 ih_16 => ?_)
  intro uf_11 u_12 hm_15 hv_13
  refine k_iload_n X dX11_carry_7 0 rfl ?_
  refine k_iconst (v := 4) X dX11_carry_8 (by decide) ?_
  refine k_ic_ge 25 X dX11_carry_9 (by decide) (fun h_17 => ?_) (fun h_17 => ?_)
  · skip
    have j_18 : 4 ≤ u_12.toInt := iv_le h_17
    have iv_19 : IV u_12 4 8 := iv_leR (iv_le h_17) (show IV 4 4 4 from (by decide)) hv_13 (by decide)
    refine k_iconst (v := 0) X dX11_carry_25 (by decide) ?_
    refine k_istore_n [(3, .int 0), (0, .ref h0), (1, .int p0), (2, .int p1)] X dX11_carry_26 (by decide) rfl ?_
    refine (fun hL : ∀ (nn_24 : Nat) (uf_20 : Nat → Int32) (uf_21 : Nat → Int32) (u_22 : Int32), (2147483647 - u_22.toInt).toNat = nn_24 → (IV u_22 0 8) → Wk p l e _ s m args below meth c _ A g _ _ _ [(cAI g a_there 8 uf_21), (cAI g a_backAt 4 uf_20), (cO11_i1r1i10r1i2r5i2r12i3r4i2 h0 m_thrown a_tape m_taped m_size m_at m_end m_token m_whole m_nameSize m_fault m_place m_trouble a_letters m_failed m_hasHouse a_r a_fresh a_st a_undone a_kept m_undos m_images a_from a_begin a_motor a_change a_startFrame a_changeFrame a_lostAt a_blackAt a_slips a_leftArc a_died a_arcs m_bestSum m_nearest m_nearestTown a_there a_backAt a_sorted a_parts m_seed1 m_darkNow), (cAI g a_r 311 d_r), (cAI g a_st 44 d_st), (cAI g a_from 8 d_from2_5), (cAI g a_begin 8 d_begin2_1), (cAI g a_motor 8 d_motor2_7), (cAI g a_change 8 d_change2_3), (cAI g a_startFrame 8 d_startFrame2_9), (cAI g a_changeFrame 8 d_changeFrame2_4), (cAI g a_lostAt 8 d_lostAt2_6), (cAI g a_blackAt 8 d_blackAt2_2), (cAI g a_slips 8 d_slips2_8)] [(3, .int u_22), (0, .ref h0), (1, .int p0), (2, .int p1)] 27 [] => hL _ uf_11 d_there 0 rfl (iv_w (show IV 0 0 0 from (by decide)) (by decide) (by decide))) ?_
    refine fun nn_24 => Nat.strongRecOn nn_24 (fun nn_24 ih_26 => ?_)
    intro uf_20 uf_21 u_22 hm_25 hv_23
    refine k_iload_n X dX11_carry_27 0 rfl ?_
    refine k_aload_n X dX11_carry_28 1 rfl ?_
    refine k_get (ci := 11) X inlX11 rfl 15 (by decide) dX11_carry_29 mw170 2 rfl rfl ?_
    refine k_bipush (v := 12) X dX11_carry_32 (by decide) ?_
    refine k_iald X dX11_carry_34 3 rfl (by unfold vp_in; decide) ?_
    refine k_nm (fun z_27 ez_27 => ?_)
    have i_28 : z_27.toInt = (d_r 12).toInt := by rw [ez_27]; rfl
    have iv_29 : IV z_27 0 8 := rb_12 ez_27 hp_d_r
    refine k_ic_ge 145 X dX11_carry_35 (by decide) (fun h_30 => ?_) (fun h_30 => ?_)
    · skip
      have j_31 : z_27.toInt ≤ u_22.toInt := iv_le h_30
      exact k_vret X hr dX11_carry_145 (Nat.le_of_ble_eq_true rfl) (Nat.le_of_ble_eq_true rfl) [2, 3, 4, 5, 6, 7, 8, 9, 10, 11, 12, 13, 0, 1] (by decide) rfl rfl ⟨uf_20, d_begin2_1, d_blackAt2_2, d_change2_3, d_changeFrame2_4, d_from2_5, d_lostAt2_6, d_motor2_7, d_slips2_8, d_startFrame2_9, uf_21, rfl⟩
    · skip
      have j_32 : u_22.toInt < z_27.toInt := iv_nle h_30
      have iv_33 : IV u_22 0 7 := iv_ltL (iv_nle h_30) hv_23 iv_29 (by decide)
      have iv_34 : IV z_27 1 8 := iv_ltR (iv_nle h_30) hv_23 iv_29 (by decide)
      refine k_iconst (v := 0) X dX11_carry_38 (by decide) ?_
      refine k_istore [(4, .int 0), (3, .int u_22), (0, .ref h0), (1, .int p0), (2, .int p1)] X dX11_carry_39 (by decide) rfl ?_
      refine k_iconst (v := 1) X dX11_carry_41 (by decide) ?_
      refine k_istore [(5, .int 1), (4, .int 0), (3, .int u_22), (0, .ref h0), (1, .int p0), (2, .int p1)] X dX11_carry_42 (by decide) rfl ?_
      refine (fun hL : ∀ (nn_39 : Nat) (u_35 : Int32) (u_37 : Int32), (p1.toInt - u_37.toInt).toNat = nn_39 → (IV u_35 0 3) → (IV u_37 1 8) → Wk p l e _ s m args below meth c _ A g _ _ _ [(cAI g a_there 8 uf_21), (cAI g a_backAt 4 uf_20), (cO11_i1r1i10r1i2r5i2r12i3r4i2 h0 m_thrown a_tape m_taped m_size m_at m_end m_token m_whole m_nameSize m_fault m_place m_trouble a_letters m_failed m_hasHouse a_r a_fresh a_st a_undone a_kept m_undos m_images a_from a_begin a_motor a_change a_startFrame a_changeFrame a_lostAt a_blackAt a_slips a_leftArc a_died a_arcs m_bestSum m_nearest m_nearestTown a_there a_backAt a_sorted a_parts m_seed1 m_darkNow), (cAI g a_r 311 d_r), (cAI g a_st 44 d_st), (cAI g a_from 8 d_from2_5), (cAI g a_begin 8 d_begin2_1), (cAI g a_motor 8 d_motor2_7), (cAI g a_change 8 d_change2_3), (cAI g a_startFrame 8 d_startFrame2_9), (cAI g a_changeFrame 8 d_changeFrame2_4), (cAI g a_lostAt 8 d_lostAt2_6), (cAI g a_blackAt 8 d_blackAt2_2), (cAI g a_slips 8 d_slips2_8)] [(5, .int u_37), (4, .int u_35), (3, .int u_22), (0, .ref h0), (1, .int p0), (2, .int p1)] 44 [] => hL _ 0 1 rfl (iv_w (show IV 0 0 0 from (by decide)) (by decide) (by decide)) (iv_w (show IV 1 1 1 from (by decide)) (by decide) (by decide))) ?_
      refine fun nn_39 => Nat.strongRecOn nn_39 (fun nn_39 ih_41 => ?_)
      intro u_35 u_37 hm_40 hv_36 hv_38
      refine k_iload X dX11_carry_44 0 rfl ?_
      refine k_iload_n X dX11_carry_46 5 rfl ?_
      refine k_ic_ge 82 X dX11_carry_47 (by decide) (fun h_42 => ?_) (fun h_42 => ?_)
      · skip
        have j_43 : p1.toInt ≤ u_37.toInt := iv_le h_42
        refine k_aload_n X dX11_carry_82 3 rfl ?_
        refine k_get (ci := 11) X inlX11 rfl 25 (by decide) dX11_carry_83 mw178 2 rfl rfl ?_
        refine k_iload_n X dX11_carry_86 2 rfl ?_
        refine k_iald X dX11_carry_87 8 rfl (iv_in iv_33 (by decide) (by decide)) ?_
        refine k_nm (fun z_44 ez_44 => ?_)
        refine k_aload_n X dX11_carry_88 3 rfl ?_
        refine k_get (ci := 11) X inlX11 rfl 38 (by decide) dX11_carry_89 mw188 2 rfl rfl ?_
        refine k_iload X dX11_carry_92 1 rfl ?_
        refine k_iald X dX11_carry_94 1 rfl (iv_in hv_36 (by decide) (by decide)) ?_
        refine k_nm (fun z_45 ez_45 => ?_)
        refine k_callSI (n := 2) (As := [.int z_44, .int z_45]) (st := []) X [] [(cAI g a_there 8 uf_21), (cAI g a_backAt 4 uf_20), (cO11_i1r1i10r1i2r5i2r12i3r4i2 h0 m_thrown a_tape m_taped m_size m_at m_end m_token m_whole m_nameSize m_fault m_place m_trouble a_letters m_failed m_hasHouse a_r a_fresh a_st a_undone a_kept m_undos m_images a_from a_begin a_motor a_change a_startFrame a_changeFrame a_lostAt a_blackAt a_slips a_leftArc a_died a_arcs m_bestSum m_nearest m_nearestTown a_there a_backAt a_sorted a_parts m_seed1 m_darkNow), (cAI g a_r 311 d_r), (cAI g a_st 44 d_st), (cAI g a_from 8 d_from2_5), (cAI g a_begin 8 d_begin2_1), (cAI g a_motor 8 d_motor2_7), (cAI g a_change 8 d_change2_3), (cAI g a_startFrame 8 d_startFrame2_9), (cAI g a_changeFrame 8 d_changeFrame2_4), (cAI g a_lostAt 8 d_lostAt2_6), (cAI g a_blackAt 8 d_blackAt2_2), (cAI g a_slips 8 d_slips2_8)] [] [0, 1, 2, 3, 4, 5, 6, 7, 8, 9, 10, 11, 12, 13] (m_most l g z_44 z_45) dX11_carry_95 mw842 mw843 mw5 mw844 yk_yX11_most_2 rfl (Nat.le_of_ble_eq_true rfl) (Nat.le_of_ble_eq_true rfl) (Nat.le_of_ble_eq_true rfl) (Nat.le_of_ble_eq_true rfl) (Nat.le_of_ble_eq_true rfl) rfl rfl (by decide +kernel) rfl (by decide +kernel) (by decide +kernel) ?_
        rintro r_46 w rfl
        refine k_ws [(cAI g a_there 8 uf_21), (cAI g a_backAt 4 uf_20), (cO11_i1r1i10r1i2r5i2r12i3r4i2 h0 m_thrown a_tape m_taped m_size m_at m_end m_token m_whole m_nameSize m_fault m_place m_trouble a_letters m_failed m_hasHouse a_r a_fresh a_st a_undone a_kept m_undos m_images a_from a_begin a_motor a_change a_startFrame a_changeFrame a_lostAt a_blackAt a_slips a_leftArc a_died a_arcs m_bestSum m_nearest m_nearestTown a_there a_backAt a_sorted a_parts m_seed1 m_darkNow), (cAI g a_r 311 d_r), (cAI g a_st 44 d_st), (cAI g a_from 8 d_from2_5), (cAI g a_begin 8 d_begin2_1), (cAI g a_motor 8 d_motor2_7), (cAI g a_change 8 d_change2_3), (cAI g a_startFrame 8 d_startFrame2_9), (cAI g a_changeFrame 8 d_changeFrame2_4), (cAI g a_lostAt 8 d_lostAt2_6), (cAI g a_blackAt 8 d_blackAt2_2), (cAI g a_slips 8 d_slips2_8)] rfl ?_
        refine k_istore [(5, .int r_46), (4, .int u_35), (3, .int u_22), (0, .ref h0), (1, .int p0), (2, .int p1)] X dX11_carry_98 (by decide) rfl ?_
        refine k_aload_n X dX11_carry_100 3 rfl ?_
        refine k_get (ci := 11) X inlX11 rfl 37 (by decide) dX11_carry_101 mw187 2 rfl rfl ?_
        refine k_iload_n X dX11_carry_104 2 rfl ?_
        refine k_iload X dX11_carry_105 0 rfl ?_
        refine k_aload_n X dX11_carry_107 3 rfl ?_
        refine k_get (ci := 11) X inlX11 rfl 15 (by decide) dX11_carry_108 mw170 2 rfl rfl ?_
        refine k_sipush (v := 135) X dX11_carry_111 (by decide) ?_
        refine k_iald X dX11_carry_114 3 rfl (by unfold vp_in; decide) ?_
        refine k_nm (fun z_47 ez_47 => ?_)
        refine k_iadd X dX11_carry_115 ?_
        refine k_nm (fun z_48 ez_48 => ?_)
        refine k_iast [(cAI g a_there 8 (upd uf_21 (u_22 : Int32).toNatClampNeg z_48)), (cAI g a_backAt 4 uf_20), (cO11_i1r1i10r1i2r5i2r12i3r4i2 h0 m_thrown a_tape m_taped m_size m_at m_end m_token m_whole m_nameSize m_fault m_place m_trouble a_letters m_failed m_hasHouse a_r a_fresh a_st a_undone a_kept m_undos m_images a_from a_begin a_motor a_change a_startFrame a_changeFrame a_lostAt a_blackAt a_slips a_leftArc a_died a_arcs m_bestSum m_nearest m_nearestTown a_there a_backAt a_sorted a_parts m_seed1 m_darkNow), (cAI g a_r 311 d_r), (cAI g a_st 44 d_st), (cAI g a_from 8 d_from2_5), (cAI g a_begin 8 d_begin2_1), (cAI g a_motor 8 d_motor2_7), (cAI g a_change 8 d_change2_3), (cAI g a_startFrame 8 d_startFrame2_9), (cAI g a_changeFrame 8 d_changeFrame2_4), (cAI g a_lostAt 8 d_lostAt2_6), (cAI g a_blackAt 8 d_blackAt2_2), (cAI g a_slips 8 d_slips2_8)] X dX11_carry_116 0 rfl (iv_in iv_33 (by decide) (by decide)) rfl ?_
        refine (fun hg : ∀ fa_50 : Nat → Int32, Wk p l e _ s m args below meth c _ A g _ _ _ [(cAI g a_there 8 fa_50), (cAI g a_backAt 4 uf_20), (cO11_i1r1i10r1i2r5i2r12i3r4i2 h0 m_thrown a_tape m_taped m_size m_at m_end m_token m_whole m_nameSize m_fault m_place m_trouble a_letters m_failed m_hasHouse a_r a_fresh a_st a_undone a_kept m_undos m_images a_from a_begin a_motor a_change a_startFrame a_changeFrame a_lostAt a_blackAt a_slips a_leftArc a_died a_arcs m_bestSum m_nearest m_nearestTown a_there a_backAt a_sorted a_parts m_seed1 m_darkNow), (cAI g a_r 311 d_r), (cAI g a_st 44 d_st), (cAI g a_from 8 d_from2_5), (cAI g a_begin 8 d_begin2_1), (cAI g a_motor 8 d_motor2_7), (cAI g a_change 8 d_change2_3), (cAI g a_startFrame 8 d_startFrame2_9), (cAI g a_changeFrame 8 d_changeFrame2_4), (cAI g a_lostAt 8 d_lostAt2_6), (cAI g a_blackAt 8 d_blackAt2_2), (cAI g a_slips 8 d_slips2_8)] _ _ _ => hg _) (fun fa_50 => ?_)
        refine k_aload_n X dX11_carry_117 3 rfl ?_
        refine k_get (ci := 11) X inlX11 rfl 38 (by decide) dX11_carry_118 mw188 2 rfl rfl ?_
        refine k_iload X dX11_carry_121 1 rfl ?_
        refine k_aload_n X dX11_carry_123 3 rfl ?_
        refine k_get (ci := 11) X inlX11 rfl 37 (by decide) dX11_carry_124 mw187 2 rfl rfl ?_
        refine k_iload_n X dX11_carry_127 2 rfl ?_
        refine k_iald X dX11_carry_128 0 rfl (iv_in iv_33 (by decide) (by decide)) ?_
        refine k_nm (fun z_51 ez_51 => ?_)
        refine k_aload_n X dX11_carry_129 3 rfl ?_
        refine k_get (ci := 11) X inlX11 rfl 15 (by decide) dX11_carry_130 mw170 2 rfl rfl ?_
        refine k_sipush (v := 135) X dX11_carry_133 (by decide) ?_
        refine k_iald X dX11_carry_136 3 rfl (by unfold vp_in; decide) ?_
        refine k_to z_47 ez_47.symm ?_
        refine k_iadd X dX11_carry_137 ?_
        refine k_nm (fun z_52 ez_52 => ?_)
        refine k_iast [(cAI g a_there 8 fa_50), (cAI g a_backAt 4 (upd uf_20 (u_35 : Int32).toNatClampNeg z_52)), (cO11_i1r1i10r1i2r5i2r12i3r4i2 h0 m_thrown a_tape m_taped m_size m_at m_end m_token m_whole m_nameSize m_fault m_place m_trouble a_letters m_failed m_hasHouse a_r a_fresh a_st a_undone a_kept m_undos m_images a_from a_begin a_motor a_change a_startFrame a_changeFrame a_lostAt a_blackAt a_slips a_leftArc a_died a_arcs m_bestSum m_nearest m_nearestTown a_there a_backAt a_sorted a_parts m_seed1 m_darkNow), (cAI g a_r 311 d_r), (cAI g a_st 44 d_st), (cAI g a_from 8 d_from2_5), (cAI g a_begin 8 d_begin2_1), (cAI g a_motor 8 d_motor2_7), (cAI g a_change 8 d_change2_3), (cAI g a_startFrame 8 d_startFrame2_9), (cAI g a_changeFrame 8 d_changeFrame2_4), (cAI g a_lostAt 8 d_lostAt2_6), (cAI g a_blackAt 8 d_blackAt2_2), (cAI g a_slips 8 d_slips2_8)] X dX11_carry_138 1 rfl (iv_in hv_36 (by decide) (by decide)) rfl ?_
        refine (fun hg : ∀ fa_54 : Nat → Int32, Wk p l e _ s m args below meth c _ A g _ _ _ [(cAI g a_there 8 fa_50), (cAI g a_backAt 4 fa_54), (cO11_i1r1i10r1i2r5i2r12i3r4i2 h0 m_thrown a_tape m_taped m_size m_at m_end m_token m_whole m_nameSize m_fault m_place m_trouble a_letters m_failed m_hasHouse a_r a_fresh a_st a_undone a_kept m_undos m_images a_from a_begin a_motor a_change a_startFrame a_changeFrame a_lostAt a_blackAt a_slips a_leftArc a_died a_arcs m_bestSum m_nearest m_nearestTown a_there a_backAt a_sorted a_parts m_seed1 m_darkNow), (cAI g a_r 311 d_r), (cAI g a_st 44 d_st), (cAI g a_from 8 d_from2_5), (cAI g a_begin 8 d_begin2_1), (cAI g a_motor 8 d_motor2_7), (cAI g a_change 8 d_change2_3), (cAI g a_startFrame 8 d_startFrame2_9), (cAI g a_changeFrame 8 d_changeFrame2_4), (cAI g a_lostAt 8 d_lostAt2_6), (cAI g a_blackAt 8 d_blackAt2_2), (cAI g a_slips 8 d_slips2_8)] _ _ _ => hg _) (fun fa_54 => ?_)
        obtain ⟨z_55, ez_55⟩ : ∃ y : Int32, u_22 + Int32.ofInt 1 = y := ⟨_, rfl⟩
        refine k_iinc z_55 [(3, .int z_55), (5, .int r_46), (4, .int u_35), (0, .ref h0), (1, .int p0), (2, .int p1)] 2 X dX11_carry_139 rfl ez_55 (by decide) rfl ?_
        have i_56 : z_55.toInt = u_22.toInt + 1 := in_inc ez_55 (by decide) iv_33 (by decide) (by decide)
        have iv_57 : IV z_55 1 8 := iz1 i_56 iv_33 (by decide) (by decide)
        refine k_goto 27 X dX11_carry_142 (by decide) ?_
        refine k_lv [(3, .int z_55), (0, .ref h0), (1, .int p0), (2, .int p1)] [0, 3, 4, 5] rfl ?_
        exact ih_26 _ (by omega) fa_54 fa_50 z_55 rfl (iv_w iv_57 (by decide) (by decide))
      · skip
        have j_58 : u_37.toInt < p1.toInt := iv_nle h_42
        have iv_59 : IV u_37 1 3 := iv_ltL (iv_nle h_42) hv_38 hv_p1 (by decide)
        have iv_60 : IV p1 2 4 := iv_ltR (iv_nle h_42) hv_38 hv_p1 (by decide)
        refine k_aload_n X dX11_carry_50 3 rfl ?_
        refine k_get (ci := 11) X inlX11 rfl 38 (by decide) dX11_carry_51 mw188 2 rfl rfl ?_
        refine k_iload X dX11_carry_54 0 rfl ?_
        refine k_iald X dX11_carry_56 1 rfl (iv_in iv_59 (by decide) (by decide)) ?_
        refine k_nm (fun z_61 ez_61 => ?_)
        refine k_aload_n X dX11_carry_57 3 rfl ?_
        refine k_get (ci := 11) X inlX11 rfl 38 (by decide) dX11_carry_58 mw188 2 rfl rfl ?_
        refine k_iload X dX11_carry_61 1 rfl ?_
        refine k_iald X dX11_carry_63 1 rfl (iv_in hv_36 (by decide) (by decide)) ?_
        refine k_nm (fun z_62 ez_62 => ?_)
        refine k_ic_ge 72 X dX11_carry_64 (by decide) (fun h_63 => ?_) (fun h_63 => ?_)
        · skip
          have j_64 : z_62.toInt ≤ z_61.toInt := iv_le h_63
          refine k_iload X dX11_carry_72 1 rfl ?_
          refine k_istore [(4, .int u_35), (5, .int u_37), (3, .int u_22), (0, .ref h0), (1, .int p0), (2, .int p1)] X dX11_carry_74 (by decide) rfl ?_
          obtain ⟨z_65, ez_65⟩ : ∃ y : Int32, u_37 + Int32.ofInt 1 = y := ⟨_, rfl⟩
          refine k_iinc z_65 [(5, .int z_65), (4, .int u_35), (3, .int u_22), (0, .ref h0), (1, .int p0), (2, .int p1)] 1 X dX11_carry_76 rfl ez_65 (by decide) rfl ?_
          have i_66 : z_65.toInt = u_37.toInt + 1 := in_inc ez_65 (by decide) iv_59 (by decide) (by decide)
          have iv_67 : IV z_65 2 4 := iz1 i_66 iv_59 (by decide) (by decide)
          refine k_goto 44 X dX11_carry_79 (by decide) ?_
          exact ih_41 _ (by omega) u_35 z_65 rfl (iv_w hv_36 (by decide) (by decide)) (iv_w iv_67 (by decide) (by decide))
        · skip
          have j_68 : z_61.toInt < z_62.toInt := iv_nle h_63
          have iv_69 : IV z_61 (-2147483648) 2147483646 := iv_ltL (iv_nle h_63) (iv_any z_61) (iv_any z_62) (by decide)
          have iv_70 : IV z_62 (-2147483647) 2147483647 := iv_ltR (iv_nle h_63) (iv_any z_61) (iv_any z_62) (by decide)
          refine k_iload X dX11_carry_67 0 rfl ?_
          refine k_goto 74 X dX11_carry_69 (by decide) ?_
          refine k_istore [(4, .int u_37), (5, .int u_37), (3, .int u_22), (0, .ref h0), (1, .int p0), (2, .int p1)] X dX11_carry_74 (by decide) rfl ?_
          obtain ⟨z_71, ez_71⟩ : ∃ y : Int32, u_37 + Int32.ofInt 1 = y := ⟨_, rfl⟩
          refine k_iinc z_71 [(5, .int z_71), (4, .int u_37), (3, .int u_22), (0, .ref h0), (1, .int p0), (2, .int p1)] 1 X dX11_carry_76 rfl ez_71 (by decide) rfl ?_
          have i_72 : z_71.toInt = u_37.toInt + 1 := in_inc ez_71 (by decide) iv_59 (by decide) (by decide)
          have iv_73 : IV z_71 2 4 := iz1 i_72 iv_59 (by decide) (by decide)
          refine k_goto 44 X dX11_carry_79 (by decide) ?_
          exact ih_41 _ (by omega) u_37 z_71 rfl (iv_w iv_59 (by decide) (by decide)) (iv_w iv_73 (by decide) (by decide))
  · skip
    have j_74 : u_12.toInt < 4 := iv_nle h_17
    have iv_75 : IV u_12 0 3 := iv_ltL (iv_nle h_17) hv_13 (show IV 4 4 4 from (by decide)) (by decide)
    refine k_aload_n X dX11_carry_12 1 rfl ?_
    refine k_get (ci := 11) X inlX11 rfl 38 (by decide) dX11_carry_13 mw188 2 rfl rfl ?_
    refine k_iload_n X dX11_carry_16 0 rfl ?_
    refine k_iconst (v := 0) X dX11_carry_17 (by decide) ?_
    refine k_iast [(cAI g a_there 8 d_there), (cAI g a_backAt 4 (upd uf_11 (u_12 : Int32).toNatClampNeg 0)), (cO11_i1r1i10r1i2r5i2r12i3r4i2 h0 m_thrown a_tape m_taped m_size m_at m_end m_token m_whole m_nameSize m_fault m_place m_trouble a_letters m_failed m_hasHouse a_r a_fresh a_st a_undone a_kept m_undos m_images a_from a_begin a_motor a_change a_startFrame a_changeFrame a_lostAt a_blackAt a_slips a_leftArc a_died a_arcs m_bestSum m_nearest m_nearestTown a_there a_backAt a_sorted a_parts m_seed1 m_darkNow), (cAI g a_r 311 d_r), (cAI g a_st 44 d_st), (cAI g a_from 8 d_from2_5), (cAI g a_begin 8 d_begin2_1), (cAI g a_motor 8 d_motor2_7), (cAI g a_change 8 d_change2_3), (cAI g a_startFrame 8 d_startFrame2_9), (cAI g a_changeFrame 8 d_changeFrame2_4), (cAI g a_lostAt 8 d_lostAt2_6), (cAI g a_blackAt 8 d_blackAt2_2), (cAI g a_slips 8 d_slips2_8)] X dX11_carry_18 1 rfl (iv_in iv_75 (by decide) (by decide)) rfl ?_
    refine (fun hg : ∀ fa_76 : Nat → Int32, Wk p l e _ s m args below meth c _ A g _ _ _ [(cAI g a_there 8 d_there), (cAI g a_backAt 4 fa_76), (cO11_i1r1i10r1i2r5i2r12i3r4i2 h0 m_thrown a_tape m_taped m_size m_at m_end m_token m_whole m_nameSize m_fault m_place m_trouble a_letters m_failed m_hasHouse a_r a_fresh a_st a_undone a_kept m_undos m_images a_from a_begin a_motor a_change a_startFrame a_changeFrame a_lostAt a_blackAt a_slips a_leftArc a_died a_arcs m_bestSum m_nearest m_nearestTown a_there a_backAt a_sorted a_parts m_seed1 m_darkNow), (cAI g a_r 311 d_r), (cAI g a_st 44 d_st), (cAI g a_from 8 d_from2_5), (cAI g a_begin 8 d_begin2_1), (cAI g a_motor 8 d_motor2_7), (cAI g a_change 8 d_change2_3), (cAI g a_startFrame 8 d_startFrame2_9), (cAI g a_changeFrame 8 d_changeFrame2_4), (cAI g a_lostAt 8 d_lostAt2_6), (cAI g a_blackAt 8 d_blackAt2_2), (cAI g a_slips 8 d_slips2_8)] _ _ _ => hg _) (fun fa_76 => ?_)
    obtain ⟨z_77, ez_77⟩ : ∃ y : Int32, u_12 + Int32.ofInt 1 = y := ⟨_, rfl⟩
    refine k_iinc z_77 [(3, .int z_77), (0, .ref h0), (1, .int p0), (2, .int p1)] 0 X dX11_carry_19 rfl ez_77 (by decide) rfl ?_
    have i_78 : z_77.toInt = u_12.toInt + 1 := in_inc ez_77 (by decide) iv_75 (by decide) (by decide)
    have iv_79 : IV z_77 1 4 := iz1 i_78 iv_75 (by decide) (by decide)
    refine k_goto 7 X dX11_carry_22 (by decide) ?_
    exact ih_16 _ (by omega) fa_76 z_77 rfl (iv_w iv_79 (by decide) (by decide))

theorem dX11_apartOf_0 : decode cX11_apartOf 0 = .ok (.aload_n 0, 1) := dk_42 rfl
theorem dX11_apartOf_1 : decode cX11_apartOf 1 = .ok (.iload_n 1, 1) := dk_27 rfl
theorem dX11_apartOf_2 : decode cX11_apartOf 2 = .ok (.iload_n 2, 1) := dk_28 rfl
theorem dX11_apartOf_3 : decode cX11_apartOf 3 = .ok (.invokevirtual 443, 3) := dk_182 rfl rfl rfl rfl
theorem dX11_apartOf_6 : decode cX11_apartOf 6 = .ok (.iconst 0, 1) := dk_3 rfl
theorem dX11_apartOf_7 : decode cX11_apartOf 7 = .ok (.istore_n 3, 1) := dk_62 rfl
theorem dX11_apartOf_8 : decode cX11_apartOf 8 = .ok (.iconst 0, 1) := dk_3 rfl
theorem dX11_apartOf_9 : decode cX11_apartOf 9 = .ok (.istore 4, 2) := dk_54 rfl rfl rfl
theorem dX11_apartOf_11 : decode cX11_apartOf 11 = .ok (.iload 4, 2) := dk_21 rfl rfl rfl
theorem dX11_apartOf_13 : decode cX11_apartOf 13 = .ok (.aload_n 0, 1) := dk_42 rfl
theorem dX11_apartOf_14 : decode cX11_apartOf 14 = .ok (.getfield 20, 3) := dk_180 rfl rfl rfl rfl
theorem dX11_apartOf_17 : decode cX11_apartOf 17 = .ok (.bipush 12, 2) := dk_16 rfl rfl (by decide)
theorem dX11_apartOf_19 : decode cX11_apartOf 19 = .ok (.iaload, 1) := dk_46 rfl
theorem dX11_apartOf_20 : decode cX11_apartOf 20 = .ok (.if_icmp .ge 29, 3) := dk_162 rfl rfl rfl (by decide)
theorem dX11_apartOf_23 : decode cX11_apartOf 23 = .ok (.iload_n 3, 1) := dk_29 rfl
theorem dX11_apartOf_24 : decode cX11_apartOf 24 = .ok (.aload_n 0, 1) := dk_42 rfl
theorem dX11_apartOf_25 : decode cX11_apartOf 25 = .ok (.getfield 71, 3) := dk_180 rfl rfl rfl rfl
theorem dX11_apartOf_28 : decode cX11_apartOf 28 = .ok (.iload 4, 2) := dk_21 rfl rfl rfl
theorem dX11_apartOf_30 : decode cX11_apartOf 30 = .ok (.iaload, 1) := dk_46 rfl
theorem dX11_apartOf_31 : decode cX11_apartOf 31 = .ok (.aload_n 0, 1) := dk_42 rfl
theorem dX11_apartOf_32 : decode cX11_apartOf 32 = .ok (.getfield 38, 3) := dk_180 rfl rfl rfl rfl
theorem dX11_apartOf_35 : decode cX11_apartOf 35 = .ok (.iload 4, 2) := dk_21 rfl rfl rfl
theorem dX11_apartOf_37 : decode cX11_apartOf 37 = .ok (.iaload, 1) := dk_46 rfl
theorem dX11_apartOf_38 : decode cX11_apartOf 38 = .ok (.isub, 1) := dk_100 rfl
theorem dX11_apartOf_39 : decode cX11_apartOf 39 = .ok (.invokestatic 351, 3) := dk_184 rfl rfl rfl rfl
theorem dX11_apartOf_42 : decode cX11_apartOf 42 = .ok (.istore_n 3, 1) := dk_62 rfl
theorem dX11_apartOf_43 : decode cX11_apartOf 43 = .ok (.iinc 4 1, 3) := dk_132 rfl rfl rfl rfl (by decide)
theorem dX11_apartOf_46 : decode cX11_apartOf 46 = .ok (.goto (-35), 3) := dk_167 rfl rfl rfl (by decide)
theorem dX11_apartOf_49 : decode cX11_apartOf 49 = .ok (.iload_n 3, 1) := dk_29 rfl
theorem dX11_apartOf_50 : decode cX11_apartOf 50 = .ok (.ireturn, 1) := dk_172 rfl
set_option maxHeartbeats 4000000 in
set_option maxRecDepth 100000 in
theorem m_apartOf (l : Launch) (g : Gx) (h0 : Nat) (p0 : Int32) (p1 : Int32) (m_thrown : Int32) (a_tape : Nat) (m_taped : Int32) (m_size : Int32) (m_at : Int32) (m_end : Int32) (m_token : Int32) (m_whole : Int32) (m_nameSize : Int32) (m_fault : Int32) (m_place : Int32) (m_trouble : Int32) (a_letters : Nat) (m_failed : Int32) (m_hasHouse : Int32) (a_r : Nat) (a_fresh : Nat) (a_st : Nat) (a_undone : Nat) (a_kept : Nat) (m_undos : Int32) (m_images : Int32) (a_from : Nat) (a_begin : Nat) (a_motor : Nat) (a_change : Nat) (a_startFrame : Nat) (a_changeFrame : Nat) (a_lostAt : Nat) (a_blackAt : Nat) (a_slips : Nat) (a_leftArc : Nat) (a_died : Nat) (a_arcs : Nat) (m_bestSum : Int32) (m_nearest : Int32) (m_nearestTown : Int32) (a_there : Nat) (a_backAt : Nat) (a_sorted : Nat) (a_parts : Nat) (m_seed1 : Int32) (m_darkNow : Int32) (d_r : Nat → Int32) (d_st : Nat → Int32) (d_from : Nat → Int32) (d_begin : Nat → Int32) (d_motor : Nat → Int32) (d_change : Nat → Int32) (d_startFrame : Nat → Int32) (d_changeFrame : Nat → Int32) (d_lostAt : Nat → Int32) (d_blackAt : Nat → Int32) (d_slips : Nat → Int32) (d_there : Nat → Int32) (d_backAt : Nat → Int32) (hv_p0 : IV p0 0 3) (hv_p1 : IV p1 0 4) (hp_d_r : RInv d_r) : cI l g yX11_apartOf cX11_apartOf 5 (some .int) 6 135 0 0 [.ref h0, .int p0, .int p1] [(cO11_i1r1i10r1i2r5i2r12i3r4i2 h0 m_thrown a_tape m_taped m_size m_at m_end m_token m_whole m_nameSize m_fault m_place m_trouble a_letters m_failed m_hasHouse a_r a_fresh a_st a_undone a_kept m_undos m_images a_from a_begin a_motor a_change a_startFrame a_changeFrame a_lostAt a_blackAt a_slips a_leftArc a_died a_arcs m_bestSum m_nearest m_nearestTown a_there a_backAt a_sorted a_parts m_seed1 m_darkNow), (cAI g a_r 311 d_r), (cAI g a_st 44 d_st), (cAI g a_from 8 d_from), (cAI g a_begin 8 d_begin), (cAI g a_motor 8 d_motor), (cAI g a_change 8 d_change), (cAI g a_startFrame 8 d_startFrame), (cAI g a_changeFrame 8 d_changeFrame), (cAI g a_lostAt 8 d_lostAt), (cAI g a_blackAt 8 d_blackAt), (cAI g a_slips 8 d_slips), (cAI g a_there 8 d_there), (cAI g a_backAt 4 d_backAt)] (fun r w => ∃ (d_backAt2 : Nat → Int32) (d_begin2 : Nat → Int32) (d_blackAt2 : Nat → Int32) (d_change2 : Nat → Int32) (d_changeFrame2 : Nat → Int32) (d_from2 : Nat → Int32) (d_lostAt2 : Nat → Int32) (d_motor2 : Nat → Int32) (d_slips2 : Nat → Int32) (d_startFrame2 : Nat → Int32) (d_there2 : Nat → Int32), w = [(cO11_i1r1i10r1i2r5i2r12i3r4i2 h0 m_thrown a_tape m_taped m_size m_at m_end m_token m_whole m_nameSize m_fault m_place m_trouble a_letters m_failed m_hasHouse a_r a_fresh a_st a_undone a_kept m_undos m_images a_from a_begin a_motor a_change a_startFrame a_changeFrame a_lostAt a_blackAt a_slips a_leftArc a_died a_arcs m_bestSum m_nearest m_nearestTown a_there a_backAt a_sorted a_parts m_seed1 m_darkNow), (cAI g a_r 311 d_r), (cAI g a_st 44 d_st), (cAI g a_from 8 d_from2), (cAI g a_begin 8 d_begin2), (cAI g a_motor 8 d_motor2), (cAI g a_change 8 d_change2), (cAI g a_startFrame 8 d_startFrame2), (cAI g a_changeFrame 8 d_changeFrame2), (cAI g a_lostAt 8 d_lostAt2), (cAI g a_blackAt 8 d_blackAt2), (cAI g a_slips 8 d_slips2), (cAI g a_there 8 d_there2), (cAI g a_backAt 4 d_backAt2)]) := by
  refine cI.of (by decide) (Nat.le_of_ble_eq_true rfl) ?_
  intro p e s m args below meth c A X hr hi
  refine k_lveq [(0, .ref h0), (1, .int p0), (2, .int p1)] rfl ?_
  refine k_aload_n X dX11_apartOf_0 0 rfl ?_
  refine k_iload_n X dX11_apartOf_1 1 rfl ?_
  refine k_iload_n X dX11_apartOf_2 2 rfl ?_
  refine k_callVV (n := 2) (As := [.int p0, .int p1]) (st := []) X [(cO11_i1r1i10r1i2r5i2r12i3r4i2 h0 m_thrown a_tape m_taped m_size m_at m_end m_token m_whole m_nameSize m_fault m_place m_trouble a_letters m_failed m_hasHouse a_r a_fresh a_st a_undone a_kept m_undos m_images a_from a_begin a_motor a_change a_startFrame a_changeFrame a_lostAt a_blackAt a_slips a_leftArc a_died a_arcs m_bestSum m_nearest m_nearestTown a_there a_backAt a_sorted a_parts m_seed1 m_darkNow), (cAI g a_r 311 d_r), (cAI g a_st 44 d_st), (cAI g a_from 8 d_from), (cAI g a_begin 8 d_begin), (cAI g a_motor 8 d_motor), (cAI g a_change 8 d_change), (cAI g a_startFrame 8 d_startFrame), (cAI g a_changeFrame 8 d_changeFrame), (cAI g a_lostAt 8 d_lostAt), (cAI g a_blackAt 8 d_blackAt), (cAI g a_slips 8 d_slips), (cAI g a_there 8 d_there), (cAI g a_backAt 4 d_backAt)] [] [0, 1, 2, 3, 4, 5, 6, 7, 8, 9, 10, 11, 12, 13] [] (m_carry l g h0 p0 p1 m_thrown a_tape m_taped m_size m_at m_end m_token m_whole m_nameSize m_fault m_place m_trouble a_letters m_failed m_hasHouse a_r a_fresh a_st a_undone a_kept m_undos m_images a_from a_begin a_motor a_change a_startFrame a_changeFrame a_lostAt a_blackAt a_slips a_leftArc a_died a_arcs m_bestSum m_nearest m_nearestTown a_there a_backAt a_sorted a_parts m_seed1 m_darkNow d_r d_st d_from d_begin d_motor d_change d_startFrame d_changeFrame d_lostAt d_blackAt d_slips d_there d_backAt (iv_w hv_p0 (by decide) (by decide)) (iv_w hv_p1 (by decide) (by decide)) hp_d_r) dX11_apartOf_3 mw1323 mw1324 mw1325 mw5 mw1326 rfl 11 rfl rfl 0 _ rfl yk_yX11_carry_2 rfl (Nat.le_of_ble_eq_true rfl) (Nat.le_of_ble_eq_true rfl) (Nat.le_of_ble_eq_true rfl) (Nat.le_of_ble_eq_true rfl) (Nat.le_of_ble_eq_true rfl) rfl rfl (by decide +kernel) rfl (by decide +kernel) (by decide +kernel) ?_
  intro w zq
  refine exL11 zq ?_
  clear zq
  intro d_backAt2_1 d_begin2_2 d_blackAt2_3 d_change2_4 d_changeFrame2_5 d_from2_6 d_lostAt2_7 d_motor2_8 d_slips2_9 d_startFrame2_10 d_there2_11 zq
  subst zq
  refine k_ws [(cO11_i1r1i10r1i2r5i2r12i3r4i2 h0 m_thrown a_tape m_taped m_size m_at m_end m_token m_whole m_nameSize m_fault m_place m_trouble a_letters m_failed m_hasHouse a_r a_fresh a_st a_undone a_kept m_undos m_images a_from a_begin a_motor a_change a_startFrame a_changeFrame a_lostAt a_blackAt a_slips a_leftArc a_died a_arcs m_bestSum m_nearest m_nearestTown a_there a_backAt a_sorted a_parts m_seed1 m_darkNow), (cAI g a_r 311 d_r), (cAI g a_st 44 d_st), (cAI g a_from 8 d_from2_6), (cAI g a_begin 8 d_begin2_2), (cAI g a_motor 8 d_motor2_8), (cAI g a_change 8 d_change2_4), (cAI g a_startFrame 8 d_startFrame2_10), (cAI g a_changeFrame 8 d_changeFrame2_5), (cAI g a_lostAt 8 d_lostAt2_7), (cAI g a_blackAt 8 d_blackAt2_3), (cAI g a_slips 8 d_slips2_9), (cAI g a_there 8 d_there2_11), (cAI g a_backAt 4 d_backAt2_1)] rfl ?_
  refine k_iconst (v := 0) X dX11_apartOf_6 (by decide) ?_
  refine k_istore_n [(3, .int 0), (0, .ref h0), (1, .int p0), (2, .int p1)] X dX11_apartOf_7 (by decide) rfl ?_
  refine k_iconst (v := 0) X dX11_apartOf_8 (by decide) ?_
  refine k_istore [(4, .int 0), (3, .int 0), (0, .ref h0), (1, .int p0), (2, .int p1)] X dX11_apartOf_9 (by decide) rfl ?_
  refine (fun hL : ∀ (nn_16 : Nat) (u_13 : Int32) (u_14 : Int32), (2147483647 - u_14.toInt).toNat = nn_16 → (IV u_14 0 8) → Wk p l e _ s m args below meth c _ A g _ _ _ [(cO11_i1r1i10r1i2r5i2r12i3r4i2 h0 m_thrown a_tape m_taped m_size m_at m_end m_token m_whole m_nameSize m_fault m_place m_trouble a_letters m_failed m_hasHouse a_r a_fresh a_st a_undone a_kept m_undos m_images a_from a_begin a_motor a_change a_startFrame a_changeFrame a_lostAt a_blackAt a_slips a_leftArc a_died a_arcs m_bestSum m_nearest m_nearestTown a_there a_backAt a_sorted a_parts m_seed1 m_darkNow), (cAI g a_r 311 d_r), (cAI g a_st 44 d_st), (cAI g a_from 8 d_from2_6), (cAI g a_begin 8 d_begin2_2), (cAI g a_motor 8 d_motor2_8), (cAI g a_change 8 d_change2_4), (cAI g a_startFrame 8 d_startFrame2_10), (cAI g a_changeFrame 8 d_changeFrame2_5), (cAI g a_lostAt 8 d_lostAt2_7), (cAI g a_blackAt 8 d_blackAt2_3), (cAI g a_slips 8 d_slips2_9), (cAI g a_there 8 d_there2_11), (cAI g a_backAt 4 d_backAt2_1)] [(4, .int u_14), (3, .int u_13), (0, .ref h0), (1, .int p0), (2, .int p1)] 11 [] => hL _ 0 0 rfl (iv_w (show IV 0 0 0 from (by decide)) (by decide) (by decide))) ?_
  refine fun nn_16 => Nat.strongRecOn nn_16 (fun nn_16 ih_18 => ?_)
  intro u_13 u_14 hm_17 hv_15
  refine k_iload X dX11_apartOf_11 0 rfl ?_
  refine k_aload_n X dX11_apartOf_13 2 rfl ?_
  refine k_get (ci := 11) X inlX11 rfl 15 (by decide) dX11_apartOf_14 mw170 0 rfl rfl ?_
  refine k_bipush (v := 12) X dX11_apartOf_17 (by decide) ?_
  refine k_iald X dX11_apartOf_19 1 rfl (by unfold vp_in; decide) ?_
  refine k_nm (fun z_19 ez_19 => ?_)
  have i_20 : z_19.toInt = (d_r 12).toInt := by rw [ez_19]; rfl
  have iv_21 : IV z_19 0 8 := rb_12 ez_19 hp_d_r
  refine k_ic_ge 49 X dX11_apartOf_20 (by decide) (fun h_22 => ?_) (fun h_22 => ?_)
  · skip
    have j_23 : z_19.toInt ≤ u_14.toInt := iv_le h_22
    refine k_iload_n X dX11_apartOf_49 1 rfl ?_
    exact k_iret X hr dX11_apartOf_50 (Nat.le_of_ble_eq_true rfl) (Nat.le_of_ble_eq_true rfl) [0, 1, 2, 3, 4, 5, 6, 7, 8, 9, 10, 11, 12, 13] (by decide) rfl rfl ⟨d_backAt2_1, d_begin2_2, d_blackAt2_3, d_change2_4, d_changeFrame2_5, d_from2_6, d_lostAt2_7, d_motor2_8, d_slips2_9, d_startFrame2_10, d_there2_11, rfl⟩
  · skip
    have j_24 : u_14.toInt < z_19.toInt := iv_nle h_22
    have iv_25 : IV u_14 0 7 := iv_ltL (iv_nle h_22) hv_15 iv_21 (by decide)
    have iv_26 : IV z_19 1 8 := iv_ltR (iv_nle h_22) hv_15 iv_21 (by decide)
    refine k_iload_n X dX11_apartOf_23 1 rfl ?_
    refine k_aload_n X dX11_apartOf_24 2 rfl ?_
    refine k_get (ci := 11) X inlX11 rfl 37 (by decide) dX11_apartOf_25 mw187 0 rfl rfl ?_
    refine k_iload X dX11_apartOf_28 0 rfl ?_
    refine k_iald X dX11_apartOf_30 12 rfl (iv_in iv_25 (by decide) (by decide)) ?_
    refine k_nm (fun z_27 ez_27 => ?_)
    refine k_aload_n X dX11_apartOf_31 2 rfl ?_
    refine k_get (ci := 11) X inlX11 rfl 23 (by decide) dX11_apartOf_32 mw176 0 rfl rfl ?_
    refine k_iload X dX11_apartOf_35 0 rfl ?_
    refine k_iald X dX11_apartOf_37 4 rfl (iv_in iv_25 (by decide) (by decide)) ?_
    refine k_nm (fun z_28 ez_28 => ?_)
    refine k_isub X dX11_apartOf_38 ?_
    refine k_nm (fun z_29 ez_29 => ?_)
    refine k_callSI (n := 2) (As := [.int u_13, .int z_29]) (st := []) X [] [(cO11_i1r1i10r1i2r5i2r12i3r4i2 h0 m_thrown a_tape m_taped m_size m_at m_end m_token m_whole m_nameSize m_fault m_place m_trouble a_letters m_failed m_hasHouse a_r a_fresh a_st a_undone a_kept m_undos m_images a_from a_begin a_motor a_change a_startFrame a_changeFrame a_lostAt a_blackAt a_slips a_leftArc a_died a_arcs m_bestSum m_nearest m_nearestTown a_there a_backAt a_sorted a_parts m_seed1 m_darkNow), (cAI g a_r 311 d_r), (cAI g a_st 44 d_st), (cAI g a_from 8 d_from2_6), (cAI g a_begin 8 d_begin2_2), (cAI g a_motor 8 d_motor2_8), (cAI g a_change 8 d_change2_4), (cAI g a_startFrame 8 d_startFrame2_10), (cAI g a_changeFrame 8 d_changeFrame2_5), (cAI g a_lostAt 8 d_lostAt2_7), (cAI g a_blackAt 8 d_blackAt2_3), (cAI g a_slips 8 d_slips2_9), (cAI g a_there 8 d_there2_11), (cAI g a_backAt 4 d_backAt2_1)] [] [0, 1, 2, 3, 4, 5, 6, 7, 8, 9, 10, 11, 12, 13] (m_most l g u_13 z_29) dX11_apartOf_39 mw842 mw843 mw5 mw844 yk_yX11_most_2 rfl (Nat.le_of_ble_eq_true rfl) (Nat.le_of_ble_eq_true rfl) (Nat.le_of_ble_eq_true rfl) (Nat.le_of_ble_eq_true rfl) (Nat.le_of_ble_eq_true rfl) rfl rfl (by decide +kernel) rfl (by decide +kernel) (by decide +kernel) ?_
    rintro r_31 w rfl
    refine k_ws [(cO11_i1r1i10r1i2r5i2r12i3r4i2 h0 m_thrown a_tape m_taped m_size m_at m_end m_token m_whole m_nameSize m_fault m_place m_trouble a_letters m_failed m_hasHouse a_r a_fresh a_st a_undone a_kept m_undos m_images a_from a_begin a_motor a_change a_startFrame a_changeFrame a_lostAt a_blackAt a_slips a_leftArc a_died a_arcs m_bestSum m_nearest m_nearestTown a_there a_backAt a_sorted a_parts m_seed1 m_darkNow), (cAI g a_r 311 d_r), (cAI g a_st 44 d_st), (cAI g a_from 8 d_from2_6), (cAI g a_begin 8 d_begin2_2), (cAI g a_motor 8 d_motor2_8), (cAI g a_change 8 d_change2_4), (cAI g a_startFrame 8 d_startFrame2_10), (cAI g a_changeFrame 8 d_changeFrame2_5), (cAI g a_lostAt 8 d_lostAt2_7), (cAI g a_blackAt 8 d_blackAt2_3), (cAI g a_slips 8 d_slips2_9), (cAI g a_there 8 d_there2_11), (cAI g a_backAt 4 d_backAt2_1)] rfl ?_
    refine k_istore_n [(3, .int r_31), (4, .int u_14), (0, .ref h0), (1, .int p0), (2, .int p1)] X dX11_apartOf_42 (by decide) rfl ?_
    obtain ⟨z_32, ez_32⟩ : ∃ y : Int32, u_14 + Int32.ofInt 1 = y := ⟨_, rfl⟩
    refine k_iinc z_32 [(4, .int z_32), (3, .int r_31), (0, .ref h0), (1, .int p0), (2, .int p1)] 1 X dX11_apartOf_43 rfl ez_32 (by decide) rfl ?_
    have i_33 : z_32.toInt = u_14.toInt + 1 := in_inc ez_32 (by decide) iv_25 (by decide) (by decide)
    have iv_34 : IV z_32 1 8 := iz1 i_33 iv_25 (by decide) (by decide)
    refine k_goto 11 X dX11_apartOf_46 (by decide) ?_
    exact ih_18 _ (by omega) r_31 z_32 rfl (iv_w iv_34 (by decide) (by decide))
