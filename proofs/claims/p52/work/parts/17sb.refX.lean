
set_option maxHeartbeats 4000000 in
set_option maxRecDepth 100000 in
theorem m_manLineX (l : Launch) (g : Gx) (h0 : Nat) (m_thrown : Int32) (a_tape : Nat) (m_taped : Int32) (m_size : Int32) (m_at : Int32) (m_end : Int32) (m_token : Int32) (m_whole : Int32) (m_nameSize : Int32) (m_fault : Int32) (m_place : Int32) (m_trouble : Int32) (a_letters : Nat) (m_failed : Int32) (m_hasHouse : Int32) (a_r : Nat) (a_fresh : Nat) (a_st : Nat) (a_undone : Nat) (a_kept : Nat) (m_undos : Int32) (m_images : Int32) (a_from : Nat) (a_begin : Nat) (a_motor : Nat) (a_change : Nat) (a_startFrame : Nat) (a_changeFrame : Nat) (a_lostAt : Nat) (a_blackAt : Nat) (a_slips : Nat) (a_leftArc : Nat) (a_died : Nat) (a_arcs : Nat) (m_bestSum : Int32) (m_nearest : Int32) (m_nearestTown : Int32) (a_there : Nat) (a_backAt : Nat) (a_sorted : Nat) (a_parts : Nat) (m_seed1 : Int32) (m_darkNow : Int32) (d_tape : Nat → Int32) (d_letters : Nat → Int32) (d_fresh : Nat → Int32) (hv_m_size : IV m_size 0 900) (hv_m_end : IV m_end 0 900) (hv_m_nameSize : IV m_nameSize 0 900) (hv_m_failed : IV m_failed 0 1) (hp_d_fresh : RInv d_fresh) (hr_0 : TRI d_fresh) (hc_0 : m_failed = 1 ∨ ((d_fresh 11).toInt ≤ 3)) (hc_1 : m_token = 2 → IV m_nameSize 0 8) : cV l g yX11_manLine cX11_manLine 5 8 173 0 0 [.ref h0] [(cO11_i1r1i10r1i2r5i2r12i3r4i2 h0 m_thrown a_tape m_taped m_size m_at m_end m_token m_whole m_nameSize m_fault m_place m_trouble a_letters m_failed m_hasHouse a_r a_fresh a_st a_undone a_kept m_undos m_images a_from a_begin a_motor a_change a_startFrame a_changeFrame a_lostAt a_blackAt a_slips a_leftArc a_died a_arcs m_bestSum m_nearest m_nearestTown a_there a_backAt a_sorted a_parts m_seed1 m_darkNow), (cAI g a_tape 900 d_tape), (cAI g a_letters 8 d_letters), (cAI g a_fresh 311 d_fresh)] (fun w => ∃ (m_at2 : Int32) (m_end2 : Int32) (m_failed2 : Int32) (m_fault2 : Int32) (d_fresh2 : Nat → Int32) (d_letters2 : Nat → Int32) (m_nameSize2 : Int32) (m_place2 : Int32) (m_token2 : Int32) (m_whole2 : Int32), IV m_end2 0 900 ∧ IV m_failed2 0 1 ∧ IV m_nameSize2 0 900 ∧ RInv d_fresh2 ∧ (m_end.toInt ≤ m_end2.toInt) ∧ (TRI d_fresh2) ∧ (R_m_manLineX m_size m_at m_end m_token m_whole m_nameSize m_fault m_place m_failed d_tape d_letters d_fresh m_at2 m_end2 m_failed2 m_fault2 d_fresh2 d_letters2 m_nameSize2 m_place2 m_token2 m_whole2) ∧ (m_token2 = 2 → IV m_nameSize2 0 8) ∧ w = [(cO11_i1r1i10r1i2r5i2r12i3r4i2 h0 m_thrown a_tape m_taped m_size m_at2 m_end2 m_token2 m_whole2 m_nameSize2 m_fault2 m_place2 m_trouble a_letters m_failed2 m_hasHouse a_r a_fresh a_st a_undone a_kept m_undos m_images a_from a_begin a_motor a_change a_startFrame a_changeFrame a_lostAt a_blackAt a_slips a_leftArc a_died a_arcs m_bestSum m_nearest m_nearestTown a_there a_backAt a_sorted a_parts m_seed1 m_darkNow), (cAI g a_tape 900 d_tape), (cAI g a_letters 8 d_letters2), (cAI g a_fresh 311 d_fresh2)]) := by
  refine cV.of (by decide) (Nat.le_of_ble_eq_true rfl) ?_
  intro p e s m args below meth c A X hr hi
  refine k_lveq [(0, .ref h0)] rfl ?_
  refine k_aload_n X dX11_manLine_0 0 rfl ?_
  refine k_get (ci := 11) X inlX11 rfl 13 (by decide) dX11_manLine_1 mw469 0 rfl rfl ?_
  refine k_if_eq 8 X dX11_manLine_4 (by decide) (fun h_1 => ?_) (fun h_1 => ?_)
  · skip
    have iv_2 : IV m_failed 0 0 := iv_meet hv_m_failed (iv_e h_1 (show IV 0 0 0 from (by decide))) (by decide) (by decide)
    have hc_3 := hc_0.resolve_left (fun q => iv_eqN q iv_2 (show IV 1 1 1 from (by decide)) (by decide))
    have j_4 : (d_fresh 11).toInt ≤ 3 := hc_3
    refine k_bipush (v := 114) X dX11_manLine_8 (by decide) ?_
    refine k_iconst (v := 3) X dX11_manLine_10 (by decide) ?_
    refine k_aload_n X dX11_manLine_11 0 rfl ?_
    refine k_get (ci := 11) X inlX11 rfl 16 (by decide) dX11_manLine_12 mw171 0 rfl rfl ?_
    refine k_bipush (v := 11) X dX11_manLine_15 (by decide) ?_
    refine k_iald X dX11_manLine_17 3 rfl (by unfold vp_in; decide) ?_
    refine k_nm (fun z_5 ez_5 => ?_)
    have i_6 : z_5.toInt = (d_fresh 11).toInt := by rw [ez_5]; rfl
    have iv_7 : IV z_5 0 3 := by have := rb_11 ez_5 hp_d_fresh; rw [IV]; omega
    refine k_imul X dX11_manLine_18 ?_
    refine k_nm (fun z_8 ez_8 => ?_)
    have i_9 : z_8.toInt = 3 * z_5.toInt := in_mul ez_8 (by decide) (by decide) iv_7 (by decide) (by decide)
    have iv_10 : IV z_8 0 9 := iz4 i_9 iv_7 (by decide) (by decide) (by decide)
    refine k_iadd X dX11_manLine_19 ?_
    refine k_nm (fun z_11 ez_11 => ?_)
    have i_12 : z_11.toInt = 114 + z_8.toInt := in_add ez_11 (show IV 114 114 114 from (by decide)) iv_10 (by decide) (by decide)
    have iv_13 : IV z_11 114 123 := iz2 i_12 iv_10 (by decide) (by decide)
    refine k_istore_n [(1, .int z_11), (0, .ref h0)] X dX11_manLine_20 (by decide) rfl ?_
    refine k_aload_n X dX11_manLine_21 1 rfl ?_
    refine k_bipush (v := 12) X dX11_manLine_22 (by decide) ?_
    refine k_aload_n X dX11_manLine_24 1 rfl ?_
    refine k_get (ci := 11) X inlX11 rfl 16 (by decide) dX11_manLine_25 mw171 0 rfl rfl ?_
    refine k_bipush (v := 11) X dX11_manLine_28 (by decide) ?_
    refine k_iald X dX11_manLine_30 3 rfl (by unfold vp_in; decide) ?_
    refine k_to z_5 ez_5.symm ?_
    refine k_iadd X dX11_manLine_31 ?_
    refine k_nm (fun z_14 ez_14 => ?_)
    have i_15 : z_14.toInt = 12 + z_5.toInt := in_add ez_14 (show IV 12 12 12 from (by decide)) iv_7 (by decide) (by decide)
    have iv_16 : IV z_14 12 15 := iz2 i_15 iv_7 (by decide) (by decide)
    refine k_callVV (n := 1) (As := [.int z_14]) (st := []) X [(cO11_i1r1i10r1i2r5i2r12i3r4i2 h0 m_thrown a_tape m_taped m_size m_at m_end m_token m_whole m_nameSize m_fault m_place m_trouble a_letters m_failed m_hasHouse a_r a_fresh a_st a_undone a_kept m_undos m_images a_from a_begin a_motor a_change a_startFrame a_changeFrame a_lostAt a_blackAt a_slips a_leftArc a_died a_arcs m_bestSum m_nearest m_nearestTown a_there a_backAt a_sorted a_parts m_seed1 m_darkNow), (cAI g a_tape 900 d_tape), (cAI g a_letters 8 d_letters), (cAI g a_fresh 311 d_fresh)] [] [0, 1, 2, 3] [] (m_newNameX l g h0 z_14 m_thrown a_tape m_taped m_size m_at m_end m_token m_whole m_nameSize m_fault m_place m_trouble a_letters m_failed m_hasHouse a_r a_fresh a_st a_undone a_kept m_undos m_images a_from a_begin a_motor a_change a_startFrame a_changeFrame a_lostAt a_blackAt a_slips a_leftArc a_died a_arcs m_bestSum m_nearest m_nearestTown a_there a_backAt a_sorted a_parts m_seed1 m_darkNow d_tape d_letters d_fresh (iv_w iv_16 (by decide) (by decide)) (iv_w hv_m_size (by decide) (by decide)) (iv_w hv_m_end (by decide) (by decide)) (iv_w hv_m_nameSize (by decide) (by decide)) (iv_w iv_2 (by decide) (by decide)) hp_d_fresh hc_1) dX11_manLine_32 mw551 mw552 mw553 mw5 mw554 rfl 11 rfl rfl 0 _ rfl yk_yX11_newName_1 rfl (Nat.le_of_ble_eq_true rfl) (Nat.le_of_ble_eq_true rfl) (Nat.le_of_ble_eq_true rfl) (Nat.le_of_ble_eq_true rfl) (Nat.le_of_ble_eq_true rfl) rfl rfl (by decide) rfl (by decide) (by decide) ?_
    intro w zq
    refine exE10 zq ?_
    clear zq
    intro m_at2_17 m_end2_18 m_failed2_19 m_fault2_20 d_fresh2_21 d_letters2_22 m_nameSize2_23 m_place2_24 m_token2_25 m_whole2_26 iv_28 zq
    refine exA7 zq ?_
    clear zq
    intro iv_29 iv_30 hp_31 hq_32 hq_33 hq_34 hk_35 zq
    subst zq
    refine k_ws [(cO11_i1r1i10r1i2r5i2r12i3r4i2 h0 m_thrown a_tape m_taped m_size m_at2_17 m_end2_18 m_token2_25 m_whole2_26 m_nameSize2_23 m_fault2_20 m_place2_24 m_trouble a_letters m_failed2_19 m_hasHouse a_r a_fresh a_st a_undone a_kept m_undos m_images a_from a_begin a_motor a_change a_startFrame a_changeFrame a_lostAt a_blackAt a_slips a_leftArc a_died a_arcs m_bestSum m_nearest m_nearestTown a_there a_backAt a_sorted a_parts m_seed1 m_darkNow), (cAI g a_tape 900 d_tape), (cAI g a_letters 8 d_letters2_22), (cAI g a_fresh 311 d_fresh2_21)] rfl ?_
    have hk_36 : K16 d_fresh d_fresh2_21 := KN.k16 hq_32 (by have := iv_16; omega)
    have ek_37 : z_5 = d_fresh2_21 (11 : Int32).toNatClampNeg := ez_5.trans (hk_36 _ (by decide)).symm
    have hT_38 : TRI d_fresh2_21 := tri_kn hr_0 hp_d_fresh hq_32 (by have := iv_16; omega) (by have := iv_16; omega)
    refine k_aload_n X dX11_manLine_35 1 rfl ?_
    refine k_ldcwS (tx := "clean") X dX11_manLine_36 (by decide +kernel) (fun sr_39 hsr_39 => ?_)
    refine k_callVI (n := 1) (As := [.ref sr_39]) (st := []) X [(cO11_i1r1i10r1i2r5i2r12i3r4i2 h0 m_thrown a_tape m_taped m_size m_at2_17 m_end2_18 m_token2_25 m_whole2_26 m_nameSize2_23 m_fault2_20 m_place2_24 m_trouble a_letters m_failed2_19 m_hasHouse a_r a_fresh a_st a_undone a_kept m_undos m_images a_from a_begin a_motor a_change a_startFrame a_changeFrame a_lostAt a_blackAt a_slips a_leftArc a_died a_arcs m_bestSum m_nearest m_nearestTown a_there a_backAt a_sorted a_parts m_seed1 m_darkNow), (cAI g a_letters 8 d_letters2_22)] [(cAI g a_tape 900 d_tape), (cAI g a_fresh 311 d_fresh2_21)] [0, 2] [1, 3] (m_isWordX l g h0 sr_39 m_thrown a_tape m_taped m_size m_at2_17 m_end2_18 m_token2_25 m_whole2_26 m_nameSize2_23 m_fault2_20 m_place2_24 m_trouble a_letters m_failed2_19 m_hasHouse a_r a_fresh a_st a_undone a_kept m_undos m_images a_from a_begin a_motor a_change a_startFrame a_changeFrame a_lostAt a_blackAt a_slips a_leftArc a_died a_arcs m_bestSum m_nearest m_nearestTown a_there a_backAt a_sorted a_parts m_seed1 m_darkNow d_letters2_22 ("clean") (iv_w iv_30 (by decide) (by decide)) (iv_w iv_29 (by decide) (by decide)) hsr_39 hk_35) dX11_manLine_39 mw509 mw510 mw511 mw5 mw512 rfl 11 rfl rfl 0 _ rfl yk_yX11_isWord_1 rfl (Nat.le_of_ble_eq_true rfl) (Nat.le_of_ble_eq_true rfl) (Nat.le_of_ble_eq_true rfl) (Nat.le_of_ble_eq_true rfl) (Nat.le_of_ble_eq_true rfl) rfl rfl (by decide) rfl (by decide) (by decide) ?_
    rintro r_40 w ⟨iv_41, hq_42, hk_43, rfl⟩
    refine k_ws [(cAI g a_tape 900 d_tape), (cAI g a_fresh 311 d_fresh2_21), (cO11_i1r1i10r1i2r5i2r12i3r4i2 h0 m_thrown a_tape m_taped m_size m_at2_17 m_end2_18 m_token2_25 m_whole2_26 m_nameSize2_23 m_fault2_20 m_place2_24 m_trouble a_letters m_failed2_19 m_hasHouse a_r a_fresh a_st a_undone a_kept m_undos m_images a_from a_begin a_motor a_change a_startFrame a_changeFrame a_lostAt a_blackAt a_slips a_leftArc a_died a_arcs m_bestSum m_nearest m_nearestTown a_there a_backAt a_sorted a_parts m_seed1 m_darkNow), (cAI g a_letters 8 d_letters2_22)] rfl ?_
    refine k_if_eq 49 X dX11_manLine_42 (by decide) (fun h_44 => ?_) (fun h_44 => ?_)
    · skip
      have iv_45 : IV r_40 0 0 := iv_meet iv_41 (iv_e h_44 (show IV 0 0 0 from (by decide))) (by decide) (by decide)
      refine k_aload_n X dX11_manLine_49 1 rfl ?_
      refine k_ldcwS (tx := "early") X dX11_manLine_50 (by decide +kernel) (fun sr_46 hsr_46 => ?_)
      refine k_callVI (n := 1) (As := [.ref sr_46]) (st := []) X [(cO11_i1r1i10r1i2r5i2r12i3r4i2 h0 m_thrown a_tape m_taped m_size m_at2_17 m_end2_18 m_token2_25 m_whole2_26 m_nameSize2_23 m_fault2_20 m_place2_24 m_trouble a_letters m_failed2_19 m_hasHouse a_r a_fresh a_st a_undone a_kept m_undos m_images a_from a_begin a_motor a_change a_startFrame a_changeFrame a_lostAt a_blackAt a_slips a_leftArc a_died a_arcs m_bestSum m_nearest m_nearestTown a_there a_backAt a_sorted a_parts m_seed1 m_darkNow), (cAI g a_letters 8 d_letters2_22)] [(cAI g a_tape 900 d_tape), (cAI g a_fresh 311 d_fresh2_21)] [2, 3] [0, 1] (m_isWordX l g h0 sr_46 m_thrown a_tape m_taped m_size m_at2_17 m_end2_18 m_token2_25 m_whole2_26 m_nameSize2_23 m_fault2_20 m_place2_24 m_trouble a_letters m_failed2_19 m_hasHouse a_r a_fresh a_st a_undone a_kept m_undos m_images a_from a_begin a_motor a_change a_startFrame a_changeFrame a_lostAt a_blackAt a_slips a_leftArc a_died a_arcs m_bestSum m_nearest m_nearestTown a_there a_backAt a_sorted a_parts m_seed1 m_darkNow d_letters2_22 ("early") (iv_w iv_30 (by decide) (by decide)) (iv_w iv_29 (by decide) (by decide)) hsr_46 hk_35) dX11_manLine_53 mw509 mw510 mw511 mw5 mw512 rfl 11 rfl rfl 0 _ rfl yk_yX11_isWord_1 rfl (Nat.le_of_ble_eq_true rfl) (Nat.le_of_ble_eq_true rfl) (Nat.le_of_ble_eq_true rfl) (Nat.le_of_ble_eq_true rfl) (Nat.le_of_ble_eq_true rfl) rfl rfl (by decide) rfl (by decide) (by decide) ?_
      rintro r_47 w ⟨iv_48, hq_49, hk_50, rfl⟩
      refine k_ws [(cAI g a_tape 900 d_tape), (cAI g a_fresh 311 d_fresh2_21), (cO11_i1r1i10r1i2r5i2r12i3r4i2 h0 m_thrown a_tape m_taped m_size m_at2_17 m_end2_18 m_token2_25 m_whole2_26 m_nameSize2_23 m_fault2_20 m_place2_24 m_trouble a_letters m_failed2_19 m_hasHouse a_r a_fresh a_st a_undone a_kept m_undos m_images a_from a_begin a_motor a_change a_startFrame a_changeFrame a_lostAt a_blackAt a_slips a_leftArc a_died a_arcs m_bestSum m_nearest m_nearestTown a_there a_backAt a_sorted a_parts m_seed1 m_darkNow), (cAI g a_letters 8 d_letters2_22)] rfl ?_
      refine k_if_eq 63 X dX11_manLine_56 (by decide) (fun h_51 => ?_) (fun h_51 => ?_)
      · skip
        have iv_52 : IV r_47 0 0 := iv_meet iv_48 (iv_e h_51 (show IV 0 0 0 from (by decide))) (by decide) (by decide)
        refine k_aload_n X dX11_manLine_63 1 rfl ?_
        refine k_ldcwS (tx := "late") X dX11_manLine_64 (by decide +kernel) (fun sr_53 hsr_53 => ?_)
        refine k_callVI (n := 1) (As := [.ref sr_53]) (st := []) X [(cO11_i1r1i10r1i2r5i2r12i3r4i2 h0 m_thrown a_tape m_taped m_size m_at2_17 m_end2_18 m_token2_25 m_whole2_26 m_nameSize2_23 m_fault2_20 m_place2_24 m_trouble a_letters m_failed2_19 m_hasHouse a_r a_fresh a_st a_undone a_kept m_undos m_images a_from a_begin a_motor a_change a_startFrame a_changeFrame a_lostAt a_blackAt a_slips a_leftArc a_died a_arcs m_bestSum m_nearest m_nearestTown a_there a_backAt a_sorted a_parts m_seed1 m_darkNow), (cAI g a_letters 8 d_letters2_22)] [(cAI g a_tape 900 d_tape), (cAI g a_fresh 311 d_fresh2_21)] [2, 3] [0, 1] (m_isWordX l g h0 sr_53 m_thrown a_tape m_taped m_size m_at2_17 m_end2_18 m_token2_25 m_whole2_26 m_nameSize2_23 m_fault2_20 m_place2_24 m_trouble a_letters m_failed2_19 m_hasHouse a_r a_fresh a_st a_undone a_kept m_undos m_images a_from a_begin a_motor a_change a_startFrame a_changeFrame a_lostAt a_blackAt a_slips a_leftArc a_died a_arcs m_bestSum m_nearest m_nearestTown a_there a_backAt a_sorted a_parts m_seed1 m_darkNow d_letters2_22 ("late") (iv_w iv_30 (by decide) (by decide)) (iv_w iv_29 (by decide) (by decide)) hsr_53 hk_35) dX11_manLine_67 mw509 mw510 mw511 mw5 mw512 rfl 11 rfl rfl 0 _ rfl yk_yX11_isWord_1 rfl (Nat.le_of_ble_eq_true rfl) (Nat.le_of_ble_eq_true rfl) (Nat.le_of_ble_eq_true rfl) (Nat.le_of_ble_eq_true rfl) (Nat.le_of_ble_eq_true rfl) rfl rfl (by decide) rfl (by decide) (by decide) ?_
        rintro r_54 w ⟨iv_55, hq_56, hk_57, rfl⟩
        refine k_ws [(cAI g a_tape 900 d_tape), (cAI g a_fresh 311 d_fresh2_21), (cO11_i1r1i10r1i2r5i2r12i3r4i2 h0 m_thrown a_tape m_taped m_size m_at2_17 m_end2_18 m_token2_25 m_whole2_26 m_nameSize2_23 m_fault2_20 m_place2_24 m_trouble a_letters m_failed2_19 m_hasHouse a_r a_fresh a_st a_undone a_kept m_undos m_images a_from a_begin a_motor a_change a_startFrame a_changeFrame a_lostAt a_blackAt a_slips a_leftArc a_died a_arcs m_bestSum m_nearest m_nearestTown a_there a_backAt a_sorted a_parts m_seed1 m_darkNow), (cAI g a_letters 8 d_letters2_22)] rfl ?_
        refine k_if_eq 77 X dX11_manLine_70 (by decide) (fun h_58 => ?_) (fun h_58 => ?_)
        · skip
          have iv_59 : IV r_54 0 0 := iv_meet iv_55 (iv_e h_58 (show IV 0 0 0 from (by decide))) (by decide) (by decide)
          refine k_aload_n X dX11_manLine_77 1 rfl ?_
          refine k_ldcwS (tx := "misled") X dX11_manLine_78 (by decide +kernel) (fun sr_60 hsr_60 => ?_)
          refine k_callVI (n := 1) (As := [.ref sr_60]) (st := []) X [(cO11_i1r1i10r1i2r5i2r12i3r4i2 h0 m_thrown a_tape m_taped m_size m_at2_17 m_end2_18 m_token2_25 m_whole2_26 m_nameSize2_23 m_fault2_20 m_place2_24 m_trouble a_letters m_failed2_19 m_hasHouse a_r a_fresh a_st a_undone a_kept m_undos m_images a_from a_begin a_motor a_change a_startFrame a_changeFrame a_lostAt a_blackAt a_slips a_leftArc a_died a_arcs m_bestSum m_nearest m_nearestTown a_there a_backAt a_sorted a_parts m_seed1 m_darkNow), (cAI g a_letters 8 d_letters2_22)] [(cAI g a_tape 900 d_tape), (cAI g a_fresh 311 d_fresh2_21)] [2, 3] [0, 1] (m_isWordX l g h0 sr_60 m_thrown a_tape m_taped m_size m_at2_17 m_end2_18 m_token2_25 m_whole2_26 m_nameSize2_23 m_fault2_20 m_place2_24 m_trouble a_letters m_failed2_19 m_hasHouse a_r a_fresh a_st a_undone a_kept m_undos m_images a_from a_begin a_motor a_change a_startFrame a_changeFrame a_lostAt a_blackAt a_slips a_leftArc a_died a_arcs m_bestSum m_nearest m_nearestTown a_there a_backAt a_sorted a_parts m_seed1 m_darkNow d_letters2_22 ("misled") (iv_w iv_30 (by decide) (by decide)) (iv_w iv_29 (by decide) (by decide)) hsr_60 hk_35) dX11_manLine_81 mw509 mw510 mw511 mw5 mw512 rfl 11 rfl rfl 0 _ rfl yk_yX11_isWord_1 rfl (Nat.le_of_ble_eq_true rfl) (Nat.le_of_ble_eq_true rfl) (Nat.le_of_ble_eq_true rfl) (Nat.le_of_ble_eq_true rfl) (Nat.le_of_ble_eq_true rfl) rfl rfl (by decide) rfl (by decide) (by decide) ?_
          rintro r_61 w ⟨iv_62, hq_63, hk_64, rfl⟩
          refine k_ws [(cAI g a_tape 900 d_tape), (cAI g a_fresh 311 d_fresh2_21), (cO11_i1r1i10r1i2r5i2r12i3r4i2 h0 m_thrown a_tape m_taped m_size m_at2_17 m_end2_18 m_token2_25 m_whole2_26 m_nameSize2_23 m_fault2_20 m_place2_24 m_trouble a_letters m_failed2_19 m_hasHouse a_r a_fresh a_st a_undone a_kept m_undos m_images a_from a_begin a_motor a_change a_startFrame a_changeFrame a_lostAt a_blackAt a_slips a_leftArc a_died a_arcs m_bestSum m_nearest m_nearestTown a_there a_backAt a_sorted a_parts m_seed1 m_darkNow), (cAI g a_letters 8 d_letters2_22)] rfl ?_
          refine k_if_eq 91 X dX11_manLine_84 (by decide) (fun h_65 => ?_) (fun h_65 => ?_)
          · skip
            have iv_66 : IV r_61 0 0 := iv_meet iv_62 (iv_e h_65 (show IV 0 0 0 from (by decide))) (by decide) (by decide)
            refine k_iconst (v := -1) X dX11_manLine_91 (by decide) ?_
            refine k_istore_n [(2, .int (-1)), (1, .int z_11), (0, .ref h0)] X dX11_manLine_92 (by decide) rfl ?_
            refine k_iload_n X dX11_manLine_93 0 rfl ?_
            refine k_if_ge 106 X dX11_manLine_94 (by decide) (fun h_67 => absurd h_67 (by decide)) (fun _ => ?_)
            refine k_aload_n X dX11_manLine_97 2 rfl ?_
            refine k_iconst (v := 1) X dX11_manLine_98 (by decide) ?_
            refine k_aload_n X dX11_manLine_99 2 rfl ?_
            refine k_get (ci := 11) X inlX11 rfl 4 (by decide) dX11_manLine_100 mw473 2 rfl rfl ?_
            refine k_callVV (n := 2) (As := [.int 1, .int m_at2_17]) (st := []) X [(cO11_i1r1i10r1i2r5i2r12i3r4i2 h0 m_thrown a_tape m_taped m_size m_at2_17 m_end2_18 m_token2_25 m_whole2_26 m_nameSize2_23 m_fault2_20 m_place2_24 m_trouble a_letters m_failed2_19 m_hasHouse a_r a_fresh a_st a_undone a_kept m_undos m_images a_from a_begin a_motor a_change a_startFrame a_changeFrame a_lostAt a_blackAt a_slips a_leftArc a_died a_arcs m_bestSum m_nearest m_nearestTown a_there a_backAt a_sorted a_parts m_seed1 m_darkNow)] [(cAI g a_tape 900 d_tape), (cAI g a_fresh 311 d_fresh2_21), (cAI g a_letters 8 d_letters2_22)] [2] [0, 1, 3] (m_badX l g h0 1 m_at2_17 m_thrown a_tape m_taped m_size m_at2_17 m_end2_18 m_token2_25 m_whole2_26 m_nameSize2_23 m_fault2_20 m_place2_24 m_trouble a_letters m_failed2_19 m_hasHouse a_r a_fresh a_st a_undone a_kept m_undos m_images a_from a_begin a_motor a_change a_startFrame a_changeFrame a_lostAt a_blackAt a_slips a_leftArc a_died a_arcs m_bestSum m_nearest m_nearestTown a_there a_backAt a_sorted a_parts m_seed1 m_darkNow (iv_w iv_29 (by decide) (by decide))) dX11_manLine_103 mw519 mw520 mw521 mw5 mw522 rfl 11 rfl rfl 0 _ rfl yk_yX11_bad_2 rfl (Nat.le_of_ble_eq_true rfl) (Nat.le_of_ble_eq_true rfl) (Nat.le_of_ble_eq_true rfl) (Nat.le_of_ble_eq_true rfl) (Nat.le_of_ble_eq_true rfl) rfl rfl (by decide) rfl (by decide) (by decide) ?_
            rintro w ⟨m_failed2_68, m_fault2_69, m_place2_70, iv_72, hq_73, rfl⟩
            refine k_ws [(cAI g a_tape 900 d_tape), (cAI g a_fresh 311 d_fresh2_21), (cAI g a_letters 8 d_letters2_22), (cO11_i1r1i10r1i2r5i2r12i3r4i2 h0 m_thrown a_tape m_taped m_size m_at2_17 m_end2_18 m_token2_25 m_whole2_26 m_nameSize2_23 m_fault2_69 m_place2_70 m_trouble a_letters m_failed2_68 m_hasHouse a_r a_fresh a_st a_undone a_kept m_undos m_images a_from a_begin a_motor a_change a_startFrame a_changeFrame a_lostAt a_blackAt a_slips a_leftArc a_died a_arcs m_bestSum m_nearest m_nearestTown a_there a_backAt a_sorted a_parts m_seed1 m_darkNow)] rfl ?_
            refine k_aload_n X dX11_manLine_106 2 rfl ?_
            refine k_get (ci := 11) X inlX11 rfl 13 (by decide) dX11_manLine_107 mw469 3 rfl rfl ?_
            refine k_if_eq 114 X dX11_manLine_110 (by decide) (fun h_74 => (iv_eqN h_74 iv_72 (show IV 0 0 0 from (by decide)) (by decide)).elim) (fun h_74 => ?_)
            exact k_vret X hr dX11_manLine_113 (Nat.le_of_ble_eq_true rfl) (Nat.le_of_ble_eq_true rfl) [3, 0, 2, 1] (by decide) rfl rfl ⟨m_at2_17, m_end2_18, m_failed2_68, m_fault2_69, d_fresh2_21, d_letters2_22, m_nameSize2_23, m_place2_70, m_token2_25, m_whole2_26, (iv_w iv_28 (by decide) (by decide)), (iv_w iv_72 (by decide) (by decide)), (iv_w iv_30 (by decide) (by decide)), hp_31, (by omega), hT_38, (Or.inl ⟨h_1, ⟨z_5, ez_5, ⟨z_8, ez_8, ⟨z_11, ez_11, ⟨z_14, ez_14, ⟨m_at2_17, m_end2_18, m_failed2_19, m_fault2_20, d_fresh2_21, d_letters2_22, m_nameSize2_23, m_place2_24, m_token2_25, m_whole2_26, hq_34, ⟨r_40, hq_42, (Or.inl ⟨h_44, ⟨r_47, hq_49, (Or.inl ⟨h_51, ⟨r_54, hq_56, (Or.inl ⟨h_58, ⟨r_61, hq_63, (Or.inl ⟨h_65, ⟨m_failed2_68, m_fault2_69, m_place2_70, hq_73, ⟨rfl, rfl, rfl, rfl, rfl, rfl, rfl, rfl, rfl, rfl⟩⟩⟩)⟩⟩)⟩⟩)⟩⟩)⟩⟩⟩⟩⟩⟩⟩), hk_35, rfl⟩
          · skip
            have hc_75 := hk_64.resolve_left h_65
            have iv_76 : IV m_token2_25 2 2 := iv_meet (iv_any m_token2_25) hc_75.1 (by decide) (by decide)
            have hc_77 := hk_35 (iv_eq iv_76 (show IV 2 2 2 from (by decide)))
            have iv_78 : IV m_nameSize2_23 0 8 := iv_meet iv_30 hc_77 (by decide) (by decide)
            have iv_79 : IV m_failed2_19 0 0 := iv_meet iv_29 hc_75.2 (by decide) (by decide)
            have iv_80 : IV r_61 1 1 := iv_neL h_65 iv_62 (show IV 0 0 0 from (by decide)) (by decide)
            refine k_iconst (v := 3) X dX11_manLine_87 (by decide) ?_
            refine k_goto 92 X dX11_manLine_88 (by decide) ?_
            refine k_istore_n [(2, .int 3), (1, .int z_11), (0, .ref h0)] X dX11_manLine_92 (by decide) rfl ?_
            refine k_iload_n X dX11_manLine_93 0 rfl ?_
            refine k_if_ge 106 X dX11_manLine_94 (by decide) (fun _ => ?_) (fun h_81 => absurd (by decide) h_81)
            refine k_aload_n X dX11_manLine_106 2 rfl ?_
            refine k_get (ci := 11) X inlX11 rfl 13 (by decide) dX11_manLine_107 mw469 2 rfl rfl ?_
            refine k_if_eq 114 X dX11_manLine_110 (by decide) (fun h_82 => ?_) (fun h_82 => absurd (iv_eq iv_79 (show IV 0 0 0 from (by decide))) h_82)
            refine k_aload_n X dX11_manLine_114 2 rfl ?_
            refine k_callVV (n := 0) (As := []) (st := []) X [(cO11_i1r1i10r1i2r5i2r12i3r4i2 h0 m_thrown a_tape m_taped m_size m_at2_17 m_end2_18 m_token2_25 m_whole2_26 m_nameSize2_23 m_fault2_20 m_place2_24 m_trouble a_letters m_failed2_19 m_hasHouse a_r a_fresh a_st a_undone a_kept m_undos m_images a_from a_begin a_motor a_change a_startFrame a_changeFrame a_lostAt a_blackAt a_slips a_leftArc a_died a_arcs m_bestSum m_nearest m_nearestTown a_there a_backAt a_sorted a_parts m_seed1 m_darkNow), (cAI g a_tape 900 d_tape), (cAI g a_letters 8 d_letters2_22)] [(cAI g a_fresh 311 d_fresh2_21)] [2, 0, 3] [1] (m_nextX l g h0 m_thrown a_tape m_taped m_size m_at2_17 m_end2_18 m_token2_25 m_whole2_26 m_nameSize2_23 m_fault2_20 m_place2_24 m_trouble a_letters m_failed2_19 m_hasHouse a_r a_fresh a_st a_undone a_kept m_undos m_images a_from a_begin a_motor a_change a_startFrame a_changeFrame a_lostAt a_blackAt a_slips a_leftArc a_died a_arcs m_bestSum m_nearest m_nearestTown a_there a_backAt a_sorted a_parts m_seed1 m_darkNow d_tape d_letters2_22 (iv_w hv_m_size (by decide) (by decide)) (iv_w iv_28 (by decide) (by decide)) (iv_w iv_78 (by decide) (by decide))) dX11_manLine_115 mw489 mw490 mw491 mw5 mw492 rfl 11 rfl rfl 0 _ rfl yk_yX11_next_0 rfl (Nat.le_of_ble_eq_true rfl) (Nat.le_of_ble_eq_true rfl) (Nat.le_of_ble_eq_true rfl) (Nat.le_of_ble_eq_true rfl) (Nat.le_of_ble_eq_true rfl) rfl rfl (by decide) rfl (by decide) (by decide) ?_
            intro w zq
            refine exE6 zq ?_
            clear zq
            intro m_at2_83 m_end2_84 d_letters2_85 m_nameSize2_86 m_token2_87 m_whole2_88 iv_90 zq
            refine exA5 zq ?_
            clear zq
            intro iv_91 hq_92 hq_93 hq_94 hk_95 zq
            subst zq
            refine k_ws [(cAI g a_fresh 311 d_fresh2_21), (cO11_i1r1i10r1i2r5i2r12i3r4i2 h0 m_thrown a_tape m_taped m_size m_at2_83 m_end2_84 m_token2_87 m_whole2_88 m_nameSize2_86 m_fault2_20 m_place2_24 m_trouble a_letters m_failed2_19 m_hasHouse a_r a_fresh a_st a_undone a_kept m_undos m_images a_from a_begin a_motor a_change a_startFrame a_changeFrame a_lostAt a_blackAt a_slips a_leftArc a_died a_arcs m_bestSum m_nearest m_nearestTown a_there a_backAt a_sorted a_parts m_seed1 m_darkNow), (cAI g a_tape 900 d_tape), (cAI g a_letters 8 d_letters2_85)] rfl ?_
            refine k_iconst (v := 0) X dX11_manLine_118 (by decide) ?_
            refine k_istore_n [(3, .int 0), (2, .int 3), (1, .int z_11), (0, .ref h0)] X dX11_manLine_119 (by decide) rfl ?_
            refine k_iload_n X dX11_manLine_120 1 rfl ?_
            refine k_iconst (v := 3) X dX11_manLine_121 (by decide) ?_
            refine k_ic_ne 145 X dX11_manLine_122 (by decide) (fun h_96 => absurd h_96 (by decide)) (fun _ => ?_)
            refine k_aload_n X dX11_manLine_125 3 rfl ?_
            refine k_bipush (v := 8) X dX11_manLine_126 (by decide) ?_
            refine k_bipush (v := 11) X dX11_manLine_128 (by decide) ?_
            refine k_callVI (n := 2) (As := [.int 8, .int 11]) (st := []) X [(cO11_i1r1i10r1i2r5i2r12i3r4i2 h0 m_thrown a_tape m_taped m_size m_at2_83 m_end2_84 m_token2_87 m_whole2_88 m_nameSize2_86 m_fault2_20 m_place2_24 m_trouble a_letters m_failed2_19 m_hasHouse a_r a_fresh a_st a_undone a_kept m_undos m_images a_from a_begin a_motor a_change a_startFrame a_changeFrame a_lostAt a_blackAt a_slips a_leftArc a_died a_arcs m_bestSum m_nearest m_nearestTown a_there a_backAt a_sorted a_parts m_seed1 m_darkNow), (cAI g a_letters 8 d_letters2_85), (cAI g a_fresh 311 d_fresh2_21)] [(cAI g a_tape 900 d_tape)] [1, 3, 0] [2] (m_namedTX l g h0 m_thrown a_tape m_taped m_size m_at2_83 m_end2_84 m_token2_87 m_whole2_88 m_nameSize2_86 m_fault2_20 m_place2_24 m_trouble a_letters m_failed2_19 m_hasHouse a_r a_fresh a_st a_undone a_kept m_undos m_images a_from a_begin a_motor a_change a_startFrame a_changeFrame a_lostAt a_blackAt a_slips a_leftArc a_died a_arcs m_bestSum m_nearest m_nearestTown a_there a_backAt a_sorted a_parts m_seed1 m_darkNow d_letters2_85 d_fresh2_21 (iv_w iv_91 (by decide) (by decide)) (iv_w iv_79 (by decide) (by decide)) hp_31 hk_95) dX11_manLine_130 mw575 mw576 mw577 mw5 mw578 rfl 11 rfl rfl 0 _ rfl yk_yX11_named_2 rfl (Nat.le_of_ble_eq_true rfl) (Nat.le_of_ble_eq_true rfl) (Nat.le_of_ble_eq_true rfl) (Nat.le_of_ble_eq_true rfl) (Nat.le_of_ble_eq_true rfl) rfl rfl (by decide) rfl (by decide) (by decide) ?_
            rintro r_100 w ⟨m_failed2_97, m_fault2_98, m_place2_99, iv_101, iv_102, hq_103, hq_104, rfl⟩
            refine k_ws [(cAI g a_tape 900 d_tape), (cO11_i1r1i10r1i2r5i2r12i3r4i2 h0 m_thrown a_tape m_taped m_size m_at2_83 m_end2_84 m_token2_87 m_whole2_88 m_nameSize2_86 m_fault2_98 m_place2_99 m_trouble a_letters m_failed2_97 m_hasHouse a_r a_fresh a_st a_undone a_kept m_undos m_images a_from a_begin a_motor a_change a_startFrame a_changeFrame a_lostAt a_blackAt a_slips a_leftArc a_died a_arcs m_bestSum m_nearest m_nearestTown a_there a_backAt a_sorted a_parts m_seed1 m_darkNow), (cAI g a_letters 8 d_letters2_85), (cAI g a_fresh 311 d_fresh2_21)] rfl ?_
            refine k_istore_n [(3, .int r_100), (2, .int 3), (1, .int z_11), (0, .ref h0)] X dX11_manLine_133 (by decide) rfl ?_
            refine k_aload_n X dX11_manLine_134 3 rfl ?_
            refine k_get (ci := 11) X inlX11 rfl 13 (by decide) dX11_manLine_135 mw469 1 rfl rfl ?_
            refine k_if_ne 145 X dX11_manLine_138 (by decide) (fun h_105 => ?_) (fun h_105 => ?_)
            · skip
              have iv_106 : IV m_failed2_97 1 1 := iv_neL h_105 iv_101 (show IV 0 0 0 from (by decide)) (by decide)
              refine k_aload_n X dX11_manLine_145 3 rfl ?_
              refine k_ldcwS (tx := "slip") X dX11_manLine_146 (by decide +kernel) (fun sr_107 hsr_107 => ?_)
              refine k_iconst (v := 0) X dX11_manLine_149 (by decide) ?_
              refine k_bipush (v := 40) X dX11_manLine_150 (by decide) ?_
              refine k_callVI (n := 3) (As := [.ref sr_107, .int 0, .int 40]) (st := []) X [(cO11_i1r1i10r1i2r5i2r12i3r4i2 h0 m_thrown a_tape m_taped m_size m_at2_83 m_end2_84 m_token2_87 m_whole2_88 m_nameSize2_86 m_fault2_98 m_place2_99 m_trouble a_letters m_failed2_97 m_hasHouse a_r a_fresh a_st a_undone a_kept m_undos m_images a_from a_begin a_motor a_change a_startFrame a_changeFrame a_lostAt a_blackAt a_slips a_leftArc a_died a_arcs m_bestSum m_nearest m_nearestTown a_there a_backAt a_sorted a_parts m_seed1 m_darkNow), (cAI g a_tape 900 d_tape), (cAI g a_letters 8 d_letters2_85)] [(cAI g a_fresh 311 d_fresh2_21)] [1, 0, 2] [3] (m_afterX l g h0 sr_107 0 40 m_thrown a_tape m_taped m_size m_at2_83 m_end2_84 m_token2_87 m_whole2_88 m_nameSize2_86 m_fault2_98 m_place2_99 m_trouble a_letters m_failed2_97 m_hasHouse a_r a_fresh a_st a_undone a_kept m_undos m_images a_from a_begin a_motor a_change a_startFrame a_changeFrame a_lostAt a_blackAt a_slips a_leftArc a_died a_arcs m_bestSum m_nearest m_nearestTown a_there a_backAt a_sorted a_parts m_seed1 m_darkNow d_tape d_letters2_85 ("slip") (iv_w hv_m_size (by decide) (by decide)) (iv_w iv_90 (by decide) (by decide)) (iv_w iv_91 (by decide) (by decide)) (iv_w iv_106 (by decide) (by decide)) hsr_107 hk_95) dX11_manLine_152 mw523 mw524 mw525 mw5 mw526 rfl 11 rfl rfl 0 _ rfl yk_yX11_after_3 rfl (Nat.le_of_ble_eq_true rfl) (Nat.le_of_ble_eq_true rfl) (Nat.le_of_ble_eq_true rfl) (Nat.le_of_ble_eq_true rfl) (Nat.le_of_ble_eq_true rfl) rfl rfl (by decide) rfl (by decide) (by decide) ?_
              intro r_117 w zq
              refine exE9 zq ?_
              clear zq
              intro m_at2_108 m_end2_109 m_failed2_110 m_fault2_111 d_letters2_112 m_nameSize2_113 m_place2_114 m_token2_115 m_whole2_116 iv_118 zq
              refine exA6 zq ?_
              clear zq
              intro iv_119 iv_120 hq_121 hq_122 hq_123 hk_124 zq
              subst zq
              refine k_ws [(cAI g a_fresh 311 d_fresh2_21), (cO11_i1r1i10r1i2r5i2r12i3r4i2 h0 m_thrown a_tape m_taped m_size m_at2_108 m_end2_109 m_token2_115 m_whole2_116 m_nameSize2_113 m_fault2_111 m_place2_114 m_trouble a_letters m_failed2_110 m_hasHouse a_r a_fresh a_st a_undone a_kept m_undos m_images a_from a_begin a_motor a_change a_startFrame a_changeFrame a_lostAt a_blackAt a_slips a_leftArc a_died a_arcs m_bestSum m_nearest m_nearestTown a_there a_backAt a_sorted a_parts m_seed1 m_darkNow), (cAI g a_tape 900 d_tape), (cAI g a_letters 8 d_letters2_112)] rfl ?_
              have e_125 : (0 : Int32).toInt = 0 := by decide
              have e_126 : (40 : Int32).toInt = 40 := by decide
              have iv_127 : IV r_117 0 40 := by have := (show IV 0 0 0 from (by decide)); have := (show IV 40 40 40 from (by decide)); rw [IV]; omega
              refine k_istore [(4, .int r_117), (3, .int r_100), (2, .int 3), (1, .int z_11), (0, .ref h0)] X dX11_manLine_155 (by decide) rfl ?_
              refine k_aload_n X dX11_manLine_157 4 rfl ?_
              refine k_get (ci := 11) X inlX11 rfl 13 (by decide) dX11_manLine_158 mw469 1 rfl rfl ?_
              refine k_if_eq 165 X dX11_manLine_161 (by decide) (fun h_128 => ?_) (fun h_128 => ?_)
              · skip
                have iv_129 : IV m_failed2_110 0 0 := iv_meet iv_119 (iv_e h_128 (show IV 0 0 0 from (by decide))) (by decide) (by decide)
                refine k_aload_n X dX11_manLine_165 4 rfl ?_
                refine k_get (ci := 11) X inlX11 rfl 16 (by decide) dX11_manLine_166 mw171 1 rfl rfl ?_
                refine k_iload_n X dX11_manLine_169 3 rfl ?_
                refine k_iload_n X dX11_manLine_170 2 rfl ?_
                refine k_iast [(cAI g a_fresh 311 (upd d_fresh2_21 (z_11 : Int32).toNatClampNeg 3)), (cO11_i1r1i10r1i2r5i2r12i3r4i2 h0 m_thrown a_tape m_taped m_size m_at2_108 m_end2_109 m_token2_115 m_whole2_116 m_nameSize2_113 m_fault2_111 m_place2_114 m_trouble a_letters m_failed2_110 m_hasHouse a_r a_fresh a_st a_undone a_kept m_undos m_images a_from a_begin a_motor a_change a_startFrame a_changeFrame a_lostAt a_blackAt a_slips a_leftArc a_died a_arcs m_bestSum m_nearest m_nearestTown a_there a_backAt a_sorted a_parts m_seed1 m_darkNow), (cAI g a_tape 900 d_tape), (cAI g a_letters 8 d_letters2_112)] X dX11_manLine_171 0 rfl (iv_in iv_13 (by decide) (by decide)) rfl ?_
                have i_132 : z_11.toInt = 114 + 3 * z_5.toInt := by omega
                refine (fun hg : ∀ fa_130 : Nat → Int32, fa_130 = upd d_fresh2_21 (z_11 : Int32).toNatClampNeg 3 → RInv fa_130 → K16 d_fresh2_21 fa_130 → Wk p l e _ s m args below meth c _ A g _ _ _ [(cAI g a_fresh 311 fa_130), (cO11_i1r1i10r1i2r5i2r12i3r4i2 h0 m_thrown a_tape m_taped m_size m_at2_108 m_end2_109 m_token2_115 m_whole2_116 m_nameSize2_113 m_fault2_111 m_place2_114 m_trouble a_letters m_failed2_110 m_hasHouse a_r a_fresh a_st a_undone a_kept m_undos m_images a_from a_begin a_motor a_change a_startFrame a_changeFrame a_lostAt a_blackAt a_slips a_leftArc a_died a_arcs m_bestSum m_nearest m_nearestTown a_there a_backAt a_sorted a_parts m_seed1 m_darkNow), (cAI g a_tape 900 d_tape), (cAI g a_letters 8 d_letters2_112)] _ _ _ => hg _ rfl (w_fr_114_3 hp_31 i_132 (iv_w iv_7 (by decide) (by decide))) (k16_u (z := z_11) (by have := iv_13; omega))) (fun fa_130 eq_134 hR_131 hk_133 => ?_)
                have ek_135 : z_5 = fa_130 (11 : Int32).toNatClampNeg := ek_37.trans (hk_133 _ (by decide)).symm
                have hT_136 : TRI fa_130 := by have := iv_13; exact tri_z (z := z_11) eq_134 hT_38 hp_31 (by omega) (by omega) (by omega) (by omega) (by omega)
                refine k_aload_n X dX11_manLine_172 4 rfl ?_
                refine k_get (ci := 11) X inlX11 rfl 16 (by decide) dX11_manLine_173 mw171 1 rfl rfl ?_
                refine k_iload_n X dX11_manLine_176 3 rfl ?_
                refine k_iconst (v := 1) X dX11_manLine_177 (by decide) ?_
                refine k_iadd X dX11_manLine_178 ?_
                refine k_nm (fun z_137 ez_137 => ?_)
                have i_138 : z_137.toInt = z_11.toInt + 1 := in_add ez_137 iv_13 (show IV 1 1 1 from (by decide)) (by decide) (by decide)
                have iv_139 : IV z_137 115 124 := iz1 i_138 iv_13 (by decide) (by decide)
                refine k_iload_n X dX11_manLine_179 1 rfl ?_
                refine k_iast [(cAI g a_fresh 311 (upd fa_130 (z_137 : Int32).toNatClampNeg r_100)), (cO11_i1r1i10r1i2r5i2r12i3r4i2 h0 m_thrown a_tape m_taped m_size m_at2_108 m_end2_109 m_token2_115 m_whole2_116 m_nameSize2_113 m_fault2_111 m_place2_114 m_trouble a_letters m_failed2_110 m_hasHouse a_r a_fresh a_st a_undone a_kept m_undos m_images a_from a_begin a_motor a_change a_startFrame a_changeFrame a_lostAt a_blackAt a_slips a_leftArc a_died a_arcs m_bestSum m_nearest m_nearestTown a_there a_backAt a_sorted a_parts m_seed1 m_darkNow), (cAI g a_tape 900 d_tape), (cAI g a_letters 8 d_letters2_112)] X dX11_manLine_180 0 rfl (iv_in iv_139 (by decide) (by decide)) rfl ?_
                have i_142 : z_137.toInt = 115 + 3 * z_5.toInt := by omega
                refine (fun hg : ∀ fa_140 : Nat → Int32, fa_140 = upd fa_130 (z_137 : Int32).toNatClampNeg r_100 → RInv fa_140 → K16 fa_130 fa_140 → Wk p l e _ s m args below meth c _ A g _ _ _ [(cAI g a_fresh 311 fa_140), (cO11_i1r1i10r1i2r5i2r12i3r4i2 h0 m_thrown a_tape m_taped m_size m_at2_108 m_end2_109 m_token2_115 m_whole2_116 m_nameSize2_113 m_fault2_111 m_place2_114 m_trouble a_letters m_failed2_110 m_hasHouse a_r a_fresh a_st a_undone a_kept m_undos m_images a_from a_begin a_motor a_change a_startFrame a_changeFrame a_lostAt a_blackAt a_slips a_leftArc a_died a_arcs m_bestSum m_nearest m_nearestTown a_there a_backAt a_sorted a_parts m_seed1 m_darkNow), (cAI g a_tape 900 d_tape), (cAI g a_letters 8 d_letters2_112)] _ _ _ => hg _ rfl (w_fr_115_3 hR_131 i_142 (iv_w iv_7 (by decide) (by decide))) (k16_u (z := z_137) (by have := iv_139; omega))) (fun fa_140 eq_144 hR_141 hk_143 => ?_)
                have ek_145 : z_5 = fa_140 (11 : Int32).toNatClampNeg := ek_135.trans (hk_143 _ (by decide)).symm
                have hT_146 : TRI fa_140 := by have := iv_139; exact tri_z (z := z_137) eq_144 hT_136 hR_131 (by omega) (by omega) (by omega) (by omega) (by omega)
                refine k_aload_n X dX11_manLine_181 4 rfl ?_
                refine k_get (ci := 11) X inlX11 rfl 16 (by decide) dX11_manLine_182 mw171 1 rfl rfl ?_
                refine k_iload_n X dX11_manLine_185 3 rfl ?_
                refine k_iconst (v := 2) X dX11_manLine_186 (by decide) ?_
                refine k_iadd X dX11_manLine_187 ?_
                refine k_nm (fun z_147 ez_147 => ?_)
                have i_148 : z_147.toInt = z_11.toInt + 2 := in_add ez_147 iv_13 (show IV 2 2 2 from (by decide)) (by decide) (by decide)
                have iv_149 : IV z_147 116 125 := iz1 i_148 iv_13 (by decide) (by decide)
                refine k_iload X dX11_manLine_188 0 rfl ?_
                refine k_iast [(cAI g a_fresh 311 (upd fa_140 (z_147 : Int32).toNatClampNeg r_117)), (cO11_i1r1i10r1i2r5i2r12i3r4i2 h0 m_thrown a_tape m_taped m_size m_at2_108 m_end2_109 m_token2_115 m_whole2_116 m_nameSize2_113 m_fault2_111 m_place2_114 m_trouble a_letters m_failed2_110 m_hasHouse a_r a_fresh a_st a_undone a_kept m_undos m_images a_from a_begin a_motor a_change a_startFrame a_changeFrame a_lostAt a_blackAt a_slips a_leftArc a_died a_arcs m_bestSum m_nearest m_nearestTown a_there a_backAt a_sorted a_parts m_seed1 m_darkNow), (cAI g a_tape 900 d_tape), (cAI g a_letters 8 d_letters2_112)] X dX11_manLine_190 0 rfl (iv_in iv_149 (by decide) (by decide)) rfl ?_
                have i_152 : z_147.toInt = 116 + 3 * z_5.toInt := by omega
                refine (fun hg : ∀ fa_150 : Nat → Int32, fa_150 = upd fa_140 (z_147 : Int32).toNatClampNeg r_117 → RInv fa_150 → K16 fa_140 fa_150 → Wk p l e _ s m args below meth c _ A g _ _ _ [(cAI g a_fresh 311 fa_150), (cO11_i1r1i10r1i2r5i2r12i3r4i2 h0 m_thrown a_tape m_taped m_size m_at2_108 m_end2_109 m_token2_115 m_whole2_116 m_nameSize2_113 m_fault2_111 m_place2_114 m_trouble a_letters m_failed2_110 m_hasHouse a_r a_fresh a_st a_undone a_kept m_undos m_images a_from a_begin a_motor a_change a_startFrame a_changeFrame a_lostAt a_blackAt a_slips a_leftArc a_died a_arcs m_bestSum m_nearest m_nearestTown a_there a_backAt a_sorted a_parts m_seed1 m_darkNow), (cAI g a_tape 900 d_tape), (cAI g a_letters 8 d_letters2_112)] _ _ _ => hg _ rfl (w_rb_116_3 hR_141 i_152 (iv_w iv_7 (by decide) (by decide)) (iv_w iv_127 (by decide) (by decide))) (k16_u (z := z_147) (by have := iv_149; omega))) (fun fa_150 eq_154 hR_151 hk_153 => ?_)
                have ek_155 : z_5 = fa_150 (11 : Int32).toNatClampNeg := ek_145.trans (hk_153 _ (by decide)).symm
                have hT_156 : TRI fa_150 := by have := iv_149; exact tri_z (z := z_147) eq_154 hT_146 hR_141 (by omega) (by omega) (by omega) (by omega) (by omega)
                refine k_aload_n X dX11_manLine_191 4 rfl ?_
                refine k_get (ci := 11) X inlX11 rfl 16 (by decide) dX11_manLine_192 mw171 1 rfl rfl ?_
                refine k_bipush (v := 11) X dX11_manLine_195 (by decide) ?_
                refine k_dup2 X dX11_manLine_197 rfl rfl ?_
                refine k_iald X dX11_manLine_198 0 rfl (by unfold vp_in; decide) ?_
                refine k_to z_5 ek_155.symm ?_
                refine k_iconst (v := 1) X dX11_manLine_199 (by decide) ?_
                refine k_iadd X dX11_manLine_200 ?_
                refine k_nm (fun z_157 ez_157 => ?_)
                have i_158 : z_157.toInt = z_5.toInt + 1 := in_add ez_157 iv_7 (show IV 1 1 1 from (by decide)) (by decide) (by decide)
                have iv_159 : IV z_157 1 4 := iz1 i_158 iv_7 (by decide) (by decide)
                refine k_iast [(cAI g a_fresh 311 (upd fa_150 (11 : Int32).toNatClampNeg z_157)), (cO11_i1r1i10r1i2r5i2r12i3r4i2 h0 m_thrown a_tape m_taped m_size m_at2_108 m_end2_109 m_token2_115 m_whole2_116 m_nameSize2_113 m_fault2_111 m_place2_114 m_trouble a_letters m_failed2_110 m_hasHouse a_r a_fresh a_st a_undone a_kept m_undos m_images a_from a_begin a_motor a_change a_startFrame a_changeFrame a_lostAt a_blackAt a_slips a_leftArc a_died a_arcs m_bestSum m_nearest m_nearestTown a_there a_backAt a_sorted a_parts m_seed1 m_darkNow), (cAI g a_tape 900 d_tape), (cAI g a_letters 8 d_letters2_112)] X dX11_manLine_201 0 rfl (by unfold vp_in; decide) rfl ?_
                refine (fun hg : ∀ fa_160 : Nat → Int32, fa_160 = upd fa_150 (11 : Int32).toNatClampNeg z_157 → RInv fa_160 → Wk p l e _ s m args below meth c _ A g _ _ _ [(cAI g a_fresh 311 fa_160), (cO11_i1r1i10r1i2r5i2r12i3r4i2 h0 m_thrown a_tape m_taped m_size m_at2_108 m_end2_109 m_token2_115 m_whole2_116 m_nameSize2_113 m_fault2_111 m_place2_114 m_trouble a_letters m_failed2_110 m_hasHouse a_r a_fresh a_st a_undone a_kept m_undos m_images a_from a_begin a_motor a_change a_startFrame a_changeFrame a_lostAt a_blackAt a_slips a_leftArc a_died a_arcs m_bestSum m_nearest m_nearestTown a_there a_backAt a_sorted a_parts m_seed1 m_darkNow), (cAI g a_tape 900 d_tape), (cAI g a_letters 8 d_letters2_112)] _ _ _ => hg _ rfl (w_rb_11 hR_151 (iv_w iv_159 (by decide) (by decide)))) (fun fa_160 eq_163 hR_161 => ?_)
                have hT_164 : TRI fa_160 := by rw [eq_163]; exact tri_n (z := 11) hT_156 hR_151 (by decide) (by decide) (by decide) (by decide)
                exact k_vret X hr dX11_manLine_202 (Nat.le_of_ble_eq_true rfl) (Nat.le_of_ble_eq_true rfl) [1, 2, 3, 0] (by decide) rfl rfl ⟨m_at2_108, m_end2_109, m_failed2_110, m_fault2_111, fa_160, d_letters2_112, m_nameSize2_113, m_place2_114, m_token2_115, m_whole2_116, (iv_w iv_118 (by decide) (by decide)), (iv_w iv_129 (by decide) (by decide)), (iv_w iv_120 (by decide) (by decide)), hR_161, (by omega), hT_164, (Or.inl ⟨h_1, ⟨z_5, ez_5, ⟨z_8, ez_8, ⟨z_11, ez_11, ⟨z_14, ez_14, ⟨m_at2_17, m_end2_18, m_failed2_19, m_fault2_20, d_fresh2_21, d_letters2_22, m_nameSize2_23, m_place2_24, m_token2_25, m_whole2_26, hq_34, ⟨r_40, hq_42, (Or.inl ⟨h_44, ⟨r_47, hq_49, (Or.inl ⟨h_51, ⟨r_54, hq_56, (Or.inl ⟨h_58, ⟨r_61, hq_63, (Or.inr ⟨h_65, ⟨m_at2_83, m_end2_84, d_letters2_85, m_nameSize2_86, m_token2_87, m_whole2_88, hq_94, ⟨m_failed2_97, m_fault2_98, m_place2_99, r_100, hq_104, (Or.inl ⟨h_105, ⟨m_at2_108, m_end2_109, m_failed2_110, m_fault2_111, d_letters2_112, m_nameSize2_113, m_place2_114, m_token2_115, m_whole2_116, r_117, hq_123, (Or.inl ⟨h_128, ⟨fa_130, eq_134, ⟨z_137, ez_137, ⟨fa_140, eq_144, ⟨z_147, ez_147, ⟨fa_150, eq_154, ⟨z_157, ez_157, ⟨fa_160, eq_163, ⟨rfl, rfl, rfl, rfl, rfl, rfl, rfl, rfl, rfl, rfl⟩⟩⟩⟩⟩⟩⟩⟩⟩)⟩⟩)⟩⟩⟩)⟩⟩)⟩⟩)⟩⟩)⟩⟩⟩⟩⟩⟩⟩), hk_124, rfl⟩
              · skip
                have iv_165 : IV m_failed2_110 1 1 := iv_neL h_128 iv_119 (show IV 0 0 0 from (by decide)) (by decide)
                exact k_vret X hr dX11_manLine_164 (Nat.le_of_ble_eq_true rfl) (Nat.le_of_ble_eq_true rfl) [1, 2, 3, 0] (by decide) rfl rfl ⟨m_at2_108, m_end2_109, m_failed2_110, m_fault2_111, d_fresh2_21, d_letters2_112, m_nameSize2_113, m_place2_114, m_token2_115, m_whole2_116, (iv_w iv_118 (by decide) (by decide)), (iv_w iv_165 (by decide) (by decide)), (iv_w iv_120 (by decide) (by decide)), hp_31, (by omega), hT_38, (Or.inl ⟨h_1, ⟨z_5, ez_5, ⟨z_8, ez_8, ⟨z_11, ez_11, ⟨z_14, ez_14, ⟨m_at2_17, m_end2_18, m_failed2_19, m_fault2_20, d_fresh2_21, d_letters2_22, m_nameSize2_23, m_place2_24, m_token2_25, m_whole2_26, hq_34, ⟨r_40, hq_42, (Or.inl ⟨h_44, ⟨r_47, hq_49, (Or.inl ⟨h_51, ⟨r_54, hq_56, (Or.inl ⟨h_58, ⟨r_61, hq_63, (Or.inr ⟨h_65, ⟨m_at2_83, m_end2_84, d_letters2_85, m_nameSize2_86, m_token2_87, m_whole2_88, hq_94, ⟨m_failed2_97, m_fault2_98, m_place2_99, r_100, hq_104, (Or.inl ⟨h_105, ⟨m_at2_108, m_end2_109, m_failed2_110, m_fault2_111, d_letters2_112, m_nameSize2_113, m_place2_114, m_token2_115, m_whole2_116, r_117, hq_123, (Or.inr ⟨h_128, ⟨rfl, rfl, rfl, rfl, rfl, rfl, rfl, rfl, rfl, rfl⟩⟩)⟩⟩)⟩⟩⟩)⟩⟩)⟩⟩)⟩⟩)⟩⟩⟩⟩⟩⟩⟩), hk_124, rfl⟩
            · skip
              have iv_166 : IV m_failed2_97 0 0 := iv_meet iv_101 (iv_e h_105 (show IV 0 0 0 from (by decide))) (by decide) (by decide)
              refine k_aload_n X dX11_manLine_141 3 rfl ?_
              refine k_callVV (n := 0) (As := []) (st := []) X [(cO11_i1r1i10r1i2r5i2r12i3r4i2 h0 m_thrown a_tape m_taped m_size m_at2_83 m_end2_84 m_token2_87 m_whole2_88 m_nameSize2_86 m_fault2_98 m_place2_99 m_trouble a_letters m_failed2_97 m_hasHouse a_r a_fresh a_st a_undone a_kept m_undos m_images a_from a_begin a_motor a_change a_startFrame a_changeFrame a_lostAt a_blackAt a_slips a_leftArc a_died a_arcs m_bestSum m_nearest m_nearestTown a_there a_backAt a_sorted a_parts m_seed1 m_darkNow), (cAI g a_tape 900 d_tape), (cAI g a_letters 8 d_letters2_85)] [(cAI g a_fresh 311 d_fresh2_21)] [1, 0, 2] [3] (m_nextX l g h0 m_thrown a_tape m_taped m_size m_at2_83 m_end2_84 m_token2_87 m_whole2_88 m_nameSize2_86 m_fault2_98 m_place2_99 m_trouble a_letters m_failed2_97 m_hasHouse a_r a_fresh a_st a_undone a_kept m_undos m_images a_from a_begin a_motor a_change a_startFrame a_changeFrame a_lostAt a_blackAt a_slips a_leftArc a_died a_arcs m_bestSum m_nearest m_nearestTown a_there a_backAt a_sorted a_parts m_seed1 m_darkNow d_tape d_letters2_85 (iv_w hv_m_size (by decide) (by decide)) (iv_w iv_90 (by decide) (by decide)) (iv_w iv_91 (by decide) (by decide))) dX11_manLine_142 mw489 mw490 mw491 mw5 mw492 rfl 11 rfl rfl 0 _ rfl yk_yX11_next_0 rfl (Nat.le_of_ble_eq_true rfl) (Nat.le_of_ble_eq_true rfl) (Nat.le_of_ble_eq_true rfl) (Nat.le_of_ble_eq_true rfl) (Nat.le_of_ble_eq_true rfl) rfl rfl (by decide) rfl (by decide) (by decide) ?_
              intro w zq
              refine exE6 zq ?_
              clear zq
              intro m_at2_167 m_end2_168 d_letters2_169 m_nameSize2_170 m_token2_171 m_whole2_172 iv_174 zq
              refine exA5 zq ?_
              clear zq
              intro iv_175 hq_176 hq_177 hq_178 hk_179 zq
              subst zq
              refine k_ws [(cAI g a_fresh 311 d_fresh2_21), (cO11_i1r1i10r1i2r5i2r12i3r4i2 h0 m_thrown a_tape m_taped m_size m_at2_167 m_end2_168 m_token2_171 m_whole2_172 m_nameSize2_170 m_fault2_98 m_place2_99 m_trouble a_letters m_failed2_97 m_hasHouse a_r a_fresh a_st a_undone a_kept m_undos m_images a_from a_begin a_motor a_change a_startFrame a_changeFrame a_lostAt a_blackAt a_slips a_leftArc a_died a_arcs m_bestSum m_nearest m_nearestTown a_there a_backAt a_sorted a_parts m_seed1 m_darkNow), (cAI g a_tape 900 d_tape), (cAI g a_letters 8 d_letters2_169)] rfl ?_
              refine k_aload_n X dX11_manLine_145 3 rfl ?_
              refine k_ldcwS (tx := "slip") X dX11_manLine_146 (by decide +kernel) (fun sr_180 hsr_180 => ?_)
              refine k_iconst (v := 0) X dX11_manLine_149 (by decide) ?_
              refine k_bipush (v := 40) X dX11_manLine_150 (by decide) ?_
              refine k_callVI (n := 3) (As := [.ref sr_180, .int 0, .int 40]) (st := []) X [(cO11_i1r1i10r1i2r5i2r12i3r4i2 h0 m_thrown a_tape m_taped m_size m_at2_167 m_end2_168 m_token2_171 m_whole2_172 m_nameSize2_170 m_fault2_98 m_place2_99 m_trouble a_letters m_failed2_97 m_hasHouse a_r a_fresh a_st a_undone a_kept m_undos m_images a_from a_begin a_motor a_change a_startFrame a_changeFrame a_lostAt a_blackAt a_slips a_leftArc a_died a_arcs m_bestSum m_nearest m_nearestTown a_there a_backAt a_sorted a_parts m_seed1 m_darkNow), (cAI g a_tape 900 d_tape), (cAI g a_letters 8 d_letters2_169)] [(cAI g a_fresh 311 d_fresh2_21)] [1, 2, 3] [0] (m_afterX l g h0 sr_180 0 40 m_thrown a_tape m_taped m_size m_at2_167 m_end2_168 m_token2_171 m_whole2_172 m_nameSize2_170 m_fault2_98 m_place2_99 m_trouble a_letters m_failed2_97 m_hasHouse a_r a_fresh a_st a_undone a_kept m_undos m_images a_from a_begin a_motor a_change a_startFrame a_changeFrame a_lostAt a_blackAt a_slips a_leftArc a_died a_arcs m_bestSum m_nearest m_nearestTown a_there a_backAt a_sorted a_parts m_seed1 m_darkNow d_tape d_letters2_169 ("slip") (iv_w hv_m_size (by decide) (by decide)) (iv_w iv_174 (by decide) (by decide)) (iv_w iv_175 (by decide) (by decide)) (iv_w iv_166 (by decide) (by decide)) hsr_180 hk_179) dX11_manLine_152 mw523 mw524 mw525 mw5 mw526 rfl 11 rfl rfl 0 _ rfl yk_yX11_after_3 rfl (Nat.le_of_ble_eq_true rfl) (Nat.le_of_ble_eq_true rfl) (Nat.le_of_ble_eq_true rfl) (Nat.le_of_ble_eq_true rfl) (Nat.le_of_ble_eq_true rfl) rfl rfl (by decide) rfl (by decide) (by decide) ?_
              intro r_190 w zq
              refine exE9 zq ?_
              clear zq
              intro m_at2_181 m_end2_182 m_failed2_183 m_fault2_184 d_letters2_185 m_nameSize2_186 m_place2_187 m_token2_188 m_whole2_189 iv_191 zq
              refine exA6 zq ?_
              clear zq
              intro iv_192 iv_193 hq_194 hq_195 hq_196 hk_197 zq
              subst zq
              refine k_ws [(cAI g a_fresh 311 d_fresh2_21), (cO11_i1r1i10r1i2r5i2r12i3r4i2 h0 m_thrown a_tape m_taped m_size m_at2_181 m_end2_182 m_token2_188 m_whole2_189 m_nameSize2_186 m_fault2_184 m_place2_187 m_trouble a_letters m_failed2_183 m_hasHouse a_r a_fresh a_st a_undone a_kept m_undos m_images a_from a_begin a_motor a_change a_startFrame a_changeFrame a_lostAt a_blackAt a_slips a_leftArc a_died a_arcs m_bestSum m_nearest m_nearestTown a_there a_backAt a_sorted a_parts m_seed1 m_darkNow), (cAI g a_tape 900 d_tape), (cAI g a_letters 8 d_letters2_185)] rfl ?_
              have e_198 : (0 : Int32).toInt = 0 := by decide
              have e_199 : (40 : Int32).toInt = 40 := by decide
              have iv_200 : IV r_190 0 40 := by have := (show IV 0 0 0 from (by decide)); have := (show IV 40 40 40 from (by decide)); rw [IV]; omega
              refine k_istore [(4, .int r_190), (3, .int r_100), (2, .int 3), (1, .int z_11), (0, .ref h0)] X dX11_manLine_155 (by decide) rfl ?_
              refine k_aload_n X dX11_manLine_157 4 rfl ?_
              refine k_get (ci := 11) X inlX11 rfl 13 (by decide) dX11_manLine_158 mw469 1 rfl rfl ?_
              refine k_if_eq 165 X dX11_manLine_161 (by decide) (fun h_201 => ?_) (fun h_201 => ?_)
              · skip
                have iv_202 : IV m_failed2_183 0 0 := iv_meet iv_192 (iv_e h_201 (show IV 0 0 0 from (by decide))) (by decide) (by decide)
                refine k_aload_n X dX11_manLine_165 4 rfl ?_
                refine k_get (ci := 11) X inlX11 rfl 16 (by decide) dX11_manLine_166 mw171 1 rfl rfl ?_
                refine k_iload_n X dX11_manLine_169 3 rfl ?_
                refine k_iload_n X dX11_manLine_170 2 rfl ?_
                refine k_iast [(cAI g a_fresh 311 (upd d_fresh2_21 (z_11 : Int32).toNatClampNeg 3)), (cO11_i1r1i10r1i2r5i2r12i3r4i2 h0 m_thrown a_tape m_taped m_size m_at2_181 m_end2_182 m_token2_188 m_whole2_189 m_nameSize2_186 m_fault2_184 m_place2_187 m_trouble a_letters m_failed2_183 m_hasHouse a_r a_fresh a_st a_undone a_kept m_undos m_images a_from a_begin a_motor a_change a_startFrame a_changeFrame a_lostAt a_blackAt a_slips a_leftArc a_died a_arcs m_bestSum m_nearest m_nearestTown a_there a_backAt a_sorted a_parts m_seed1 m_darkNow), (cAI g a_tape 900 d_tape), (cAI g a_letters 8 d_letters2_185)] X dX11_manLine_171 0 rfl (iv_in iv_13 (by decide) (by decide)) rfl ?_
                have i_205 : z_11.toInt = 114 + 3 * z_5.toInt := by omega
                refine (fun hg : ∀ fa_203 : Nat → Int32, fa_203 = upd d_fresh2_21 (z_11 : Int32).toNatClampNeg 3 → RInv fa_203 → K16 d_fresh2_21 fa_203 → Wk p l e _ s m args below meth c _ A g _ _ _ [(cAI g a_fresh 311 fa_203), (cO11_i1r1i10r1i2r5i2r12i3r4i2 h0 m_thrown a_tape m_taped m_size m_at2_181 m_end2_182 m_token2_188 m_whole2_189 m_nameSize2_186 m_fault2_184 m_place2_187 m_trouble a_letters m_failed2_183 m_hasHouse a_r a_fresh a_st a_undone a_kept m_undos m_images a_from a_begin a_motor a_change a_startFrame a_changeFrame a_lostAt a_blackAt a_slips a_leftArc a_died a_arcs m_bestSum m_nearest m_nearestTown a_there a_backAt a_sorted a_parts m_seed1 m_darkNow), (cAI g a_tape 900 d_tape), (cAI g a_letters 8 d_letters2_185)] _ _ _ => hg _ rfl (w_fr_114_3 hp_31 i_205 (iv_w iv_7 (by decide) (by decide))) (k16_u (z := z_11) (by have := iv_13; omega))) (fun fa_203 eq_207 hR_204 hk_206 => ?_)
                have ek_208 : z_5 = fa_203 (11 : Int32).toNatClampNeg := ek_37.trans (hk_206 _ (by decide)).symm
                have hT_209 : TRI fa_203 := by have := iv_13; exact tri_z (z := z_11) eq_207 hT_38 hp_31 (by omega) (by omega) (by omega) (by omega) (by omega)
                refine k_aload_n X dX11_manLine_172 4 rfl ?_
                refine k_get (ci := 11) X inlX11 rfl 16 (by decide) dX11_manLine_173 mw171 1 rfl rfl ?_
                refine k_iload_n X dX11_manLine_176 3 rfl ?_
                refine k_iconst (v := 1) X dX11_manLine_177 (by decide) ?_
                refine k_iadd X dX11_manLine_178 ?_
                refine k_nm (fun z_210 ez_210 => ?_)
                have i_211 : z_210.toInt = z_11.toInt + 1 := in_add ez_210 iv_13 (show IV 1 1 1 from (by decide)) (by decide) (by decide)
                have iv_212 : IV z_210 115 124 := iz1 i_211 iv_13 (by decide) (by decide)
                refine k_iload_n X dX11_manLine_179 1 rfl ?_
                refine k_iast [(cAI g a_fresh 311 (upd fa_203 (z_210 : Int32).toNatClampNeg r_100)), (cO11_i1r1i10r1i2r5i2r12i3r4i2 h0 m_thrown a_tape m_taped m_size m_at2_181 m_end2_182 m_token2_188 m_whole2_189 m_nameSize2_186 m_fault2_184 m_place2_187 m_trouble a_letters m_failed2_183 m_hasHouse a_r a_fresh a_st a_undone a_kept m_undos m_images a_from a_begin a_motor a_change a_startFrame a_changeFrame a_lostAt a_blackAt a_slips a_leftArc a_died a_arcs m_bestSum m_nearest m_nearestTown a_there a_backAt a_sorted a_parts m_seed1 m_darkNow), (cAI g a_tape 900 d_tape), (cAI g a_letters 8 d_letters2_185)] X dX11_manLine_180 0 rfl (iv_in iv_212 (by decide) (by decide)) rfl ?_
                have i_215 : z_210.toInt = 115 + 3 * z_5.toInt := by omega
                refine (fun hg : ∀ fa_213 : Nat → Int32, fa_213 = upd fa_203 (z_210 : Int32).toNatClampNeg r_100 → RInv fa_213 → K16 fa_203 fa_213 → Wk p l e _ s m args below meth c _ A g _ _ _ [(cAI g a_fresh 311 fa_213), (cO11_i1r1i10r1i2r5i2r12i3r4i2 h0 m_thrown a_tape m_taped m_size m_at2_181 m_end2_182 m_token2_188 m_whole2_189 m_nameSize2_186 m_fault2_184 m_place2_187 m_trouble a_letters m_failed2_183 m_hasHouse a_r a_fresh a_st a_undone a_kept m_undos m_images a_from a_begin a_motor a_change a_startFrame a_changeFrame a_lostAt a_blackAt a_slips a_leftArc a_died a_arcs m_bestSum m_nearest m_nearestTown a_there a_backAt a_sorted a_parts m_seed1 m_darkNow), (cAI g a_tape 900 d_tape), (cAI g a_letters 8 d_letters2_185)] _ _ _ => hg _ rfl (w_fr_115_3 hR_204 i_215 (iv_w iv_7 (by decide) (by decide))) (k16_u (z := z_210) (by have := iv_212; omega))) (fun fa_213 eq_217 hR_214 hk_216 => ?_)
                have ek_218 : z_5 = fa_213 (11 : Int32).toNatClampNeg := ek_208.trans (hk_216 _ (by decide)).symm
                have hT_219 : TRI fa_213 := by have := iv_212; exact tri_z (z := z_210) eq_217 hT_209 hR_204 (by omega) (by omega) (by omega) (by omega) (by omega)
                refine k_aload_n X dX11_manLine_181 4 rfl ?_
                refine k_get (ci := 11) X inlX11 rfl 16 (by decide) dX11_manLine_182 mw171 1 rfl rfl ?_
                refine k_iload_n X dX11_manLine_185 3 rfl ?_
                refine k_iconst (v := 2) X dX11_manLine_186 (by decide) ?_
                refine k_iadd X dX11_manLine_187 ?_
                refine k_nm (fun z_220 ez_220 => ?_)
                have i_221 : z_220.toInt = z_11.toInt + 2 := in_add ez_220 iv_13 (show IV 2 2 2 from (by decide)) (by decide) (by decide)
                have iv_222 : IV z_220 116 125 := iz1 i_221 iv_13 (by decide) (by decide)
                refine k_iload X dX11_manLine_188 0 rfl ?_
                refine k_iast [(cAI g a_fresh 311 (upd fa_213 (z_220 : Int32).toNatClampNeg r_190)), (cO11_i1r1i10r1i2r5i2r12i3r4i2 h0 m_thrown a_tape m_taped m_size m_at2_181 m_end2_182 m_token2_188 m_whole2_189 m_nameSize2_186 m_fault2_184 m_place2_187 m_trouble a_letters m_failed2_183 m_hasHouse a_r a_fresh a_st a_undone a_kept m_undos m_images a_from a_begin a_motor a_change a_startFrame a_changeFrame a_lostAt a_blackAt a_slips a_leftArc a_died a_arcs m_bestSum m_nearest m_nearestTown a_there a_backAt a_sorted a_parts m_seed1 m_darkNow), (cAI g a_tape 900 d_tape), (cAI g a_letters 8 d_letters2_185)] X dX11_manLine_190 0 rfl (iv_in iv_222 (by decide) (by decide)) rfl ?_
                have i_225 : z_220.toInt = 116 + 3 * z_5.toInt := by omega
                refine (fun hg : ∀ fa_223 : Nat → Int32, fa_223 = upd fa_213 (z_220 : Int32).toNatClampNeg r_190 → RInv fa_223 → K16 fa_213 fa_223 → Wk p l e _ s m args below meth c _ A g _ _ _ [(cAI g a_fresh 311 fa_223), (cO11_i1r1i10r1i2r5i2r12i3r4i2 h0 m_thrown a_tape m_taped m_size m_at2_181 m_end2_182 m_token2_188 m_whole2_189 m_nameSize2_186 m_fault2_184 m_place2_187 m_trouble a_letters m_failed2_183 m_hasHouse a_r a_fresh a_st a_undone a_kept m_undos m_images a_from a_begin a_motor a_change a_startFrame a_changeFrame a_lostAt a_blackAt a_slips a_leftArc a_died a_arcs m_bestSum m_nearest m_nearestTown a_there a_backAt a_sorted a_parts m_seed1 m_darkNow), (cAI g a_tape 900 d_tape), (cAI g a_letters 8 d_letters2_185)] _ _ _ => hg _ rfl (w_rb_116_3 hR_214 i_225 (iv_w iv_7 (by decide) (by decide)) (iv_w iv_200 (by decide) (by decide))) (k16_u (z := z_220) (by have := iv_222; omega))) (fun fa_223 eq_227 hR_224 hk_226 => ?_)
                have ek_228 : z_5 = fa_223 (11 : Int32).toNatClampNeg := ek_218.trans (hk_226 _ (by decide)).symm
                have hT_229 : TRI fa_223 := by have := iv_222; exact tri_z (z := z_220) eq_227 hT_219 hR_214 (by omega) (by omega) (by omega) (by omega) (by omega)
                refine k_aload_n X dX11_manLine_191 4 rfl ?_
                refine k_get (ci := 11) X inlX11 rfl 16 (by decide) dX11_manLine_192 mw171 1 rfl rfl ?_
                refine k_bipush (v := 11) X dX11_manLine_195 (by decide) ?_
                refine k_dup2 X dX11_manLine_197 rfl rfl ?_
                refine k_iald X dX11_manLine_198 0 rfl (by unfold vp_in; decide) ?_
                refine k_to z_5 ek_228.symm ?_
                refine k_iconst (v := 1) X dX11_manLine_199 (by decide) ?_
                refine k_iadd X dX11_manLine_200 ?_
                refine k_nm (fun z_230 ez_230 => ?_)
                have i_231 : z_230.toInt = z_5.toInt + 1 := in_add ez_230 iv_7 (show IV 1 1 1 from (by decide)) (by decide) (by decide)
                have iv_232 : IV z_230 1 4 := iz1 i_231 iv_7 (by decide) (by decide)
                refine k_iast [(cAI g a_fresh 311 (upd fa_223 (11 : Int32).toNatClampNeg z_230)), (cO11_i1r1i10r1i2r5i2r12i3r4i2 h0 m_thrown a_tape m_taped m_size m_at2_181 m_end2_182 m_token2_188 m_whole2_189 m_nameSize2_186 m_fault2_184 m_place2_187 m_trouble a_letters m_failed2_183 m_hasHouse a_r a_fresh a_st a_undone a_kept m_undos m_images a_from a_begin a_motor a_change a_startFrame a_changeFrame a_lostAt a_blackAt a_slips a_leftArc a_died a_arcs m_bestSum m_nearest m_nearestTown a_there a_backAt a_sorted a_parts m_seed1 m_darkNow), (cAI g a_tape 900 d_tape), (cAI g a_letters 8 d_letters2_185)] X dX11_manLine_201 0 rfl (by unfold vp_in; decide) rfl ?_
                refine (fun hg : ∀ fa_233 : Nat → Int32, fa_233 = upd fa_223 (11 : Int32).toNatClampNeg z_230 → RInv fa_233 → Wk p l e _ s m args below meth c _ A g _ _ _ [(cAI g a_fresh 311 fa_233), (cO11_i1r1i10r1i2r5i2r12i3r4i2 h0 m_thrown a_tape m_taped m_size m_at2_181 m_end2_182 m_token2_188 m_whole2_189 m_nameSize2_186 m_fault2_184 m_place2_187 m_trouble a_letters m_failed2_183 m_hasHouse a_r a_fresh a_st a_undone a_kept m_undos m_images a_from a_begin a_motor a_change a_startFrame a_changeFrame a_lostAt a_blackAt a_slips a_leftArc a_died a_arcs m_bestSum m_nearest m_nearestTown a_there a_backAt a_sorted a_parts m_seed1 m_darkNow), (cAI g a_tape 900 d_tape), (cAI g a_letters 8 d_letters2_185)] _ _ _ => hg _ rfl (w_rb_11 hR_224 (iv_w iv_232 (by decide) (by decide)))) (fun fa_233 eq_236 hR_234 => ?_)
                have hT_237 : TRI fa_233 := by rw [eq_236]; exact tri_n (z := 11) hT_229 hR_224 (by decide) (by decide) (by decide) (by decide)
                exact k_vret X hr dX11_manLine_202 (Nat.le_of_ble_eq_true rfl) (Nat.le_of_ble_eq_true rfl) [1, 2, 3, 0] (by decide) rfl rfl ⟨m_at2_181, m_end2_182, m_failed2_183, m_fault2_184, fa_233, d_letters2_185, m_nameSize2_186, m_place2_187, m_token2_188, m_whole2_189, (iv_w iv_191 (by decide) (by decide)), (iv_w iv_202 (by decide) (by decide)), (iv_w iv_193 (by decide) (by decide)), hR_234, (by omega), hT_237, (Or.inl ⟨h_1, ⟨z_5, ez_5, ⟨z_8, ez_8, ⟨z_11, ez_11, ⟨z_14, ez_14, ⟨m_at2_17, m_end2_18, m_failed2_19, m_fault2_20, d_fresh2_21, d_letters2_22, m_nameSize2_23, m_place2_24, m_token2_25, m_whole2_26, hq_34, ⟨r_40, hq_42, (Or.inl ⟨h_44, ⟨r_47, hq_49, (Or.inl ⟨h_51, ⟨r_54, hq_56, (Or.inl ⟨h_58, ⟨r_61, hq_63, (Or.inr ⟨h_65, ⟨m_at2_83, m_end2_84, d_letters2_85, m_nameSize2_86, m_token2_87, m_whole2_88, hq_94, ⟨m_failed2_97, m_fault2_98, m_place2_99, r_100, hq_104, (Or.inr ⟨h_105, ⟨m_at2_167, m_end2_168, d_letters2_169, m_nameSize2_170, m_token2_171, m_whole2_172, hq_178, ⟨m_at2_181, m_end2_182, m_failed2_183, m_fault2_184, d_letters2_185, m_nameSize2_186, m_place2_187, m_token2_188, m_whole2_189, r_190, hq_196, (Or.inl ⟨h_201, ⟨fa_203, eq_207, ⟨z_210, ez_210, ⟨fa_213, eq_217, ⟨z_220, ez_220, ⟨fa_223, eq_227, ⟨z_230, ez_230, ⟨fa_233, eq_236, ⟨rfl, rfl, rfl, rfl, rfl, rfl, rfl, rfl, rfl, rfl⟩⟩⟩⟩⟩⟩⟩⟩⟩)⟩⟩⟩)⟩⟩⟩)⟩⟩)⟩⟩)⟩⟩)⟩⟩⟩⟩⟩⟩⟩), hk_197, rfl⟩
              · skip
                have iv_238 : IV m_failed2_183 1 1 := iv_neL h_201 iv_192 (show IV 0 0 0 from (by decide)) (by decide)
                exact k_vret X hr dX11_manLine_164 (Nat.le_of_ble_eq_true rfl) (Nat.le_of_ble_eq_true rfl) [1, 2, 3, 0] (by decide) rfl rfl ⟨m_at2_181, m_end2_182, m_failed2_183, m_fault2_184, d_fresh2_21, d_letters2_185, m_nameSize2_186, m_place2_187, m_token2_188, m_whole2_189, (iv_w iv_191 (by decide) (by decide)), (iv_w iv_238 (by decide) (by decide)), (iv_w iv_193 (by decide) (by decide)), hp_31, (by omega), hT_38, (Or.inl ⟨h_1, ⟨z_5, ez_5, ⟨z_8, ez_8, ⟨z_11, ez_11, ⟨z_14, ez_14, ⟨m_at2_17, m_end2_18, m_failed2_19, m_fault2_20, d_fresh2_21, d_letters2_22, m_nameSize2_23, m_place2_24, m_token2_25, m_whole2_26, hq_34, ⟨r_40, hq_42, (Or.inl ⟨h_44, ⟨r_47, hq_49, (Or.inl ⟨h_51, ⟨r_54, hq_56, (Or.inl ⟨h_58, ⟨r_61, hq_63, (Or.inr ⟨h_65, ⟨m_at2_83, m_end2_84, d_letters2_85, m_nameSize2_86, m_token2_87, m_whole2_88, hq_94, ⟨m_failed2_97, m_fault2_98, m_place2_99, r_100, hq_104, (Or.inr ⟨h_105, ⟨m_at2_167, m_end2_168, d_letters2_169, m_nameSize2_170, m_token2_171, m_whole2_172, hq_178, ⟨m_at2_181, m_end2_182, m_failed2_183, m_fault2_184, d_letters2_185, m_nameSize2_186, m_place2_187, m_token2_188, m_whole2_189, r_190, hq_196, (Or.inr ⟨h_201, ⟨rfl, rfl, rfl, rfl, rfl, rfl, rfl, rfl, rfl, rfl⟩⟩)⟩⟩⟩)⟩⟩⟩)⟩⟩)⟩⟩)⟩⟩)⟩⟩⟩⟩⟩⟩⟩), hk_197, rfl⟩
        · skip
          have hc_239 := hk_57.resolve_left h_58
          have iv_240 : IV m_token2_25 2 2 := iv_meet (iv_any m_token2_25) hc_239.1 (by decide) (by decide)
          have hc_241 := hk_35 (iv_eq iv_240 (show IV 2 2 2 from (by decide)))
          have iv_242 : IV m_nameSize2_23 0 8 := iv_meet iv_30 hc_241 (by decide) (by decide)
          have iv_243 : IV m_failed2_19 0 0 := iv_meet iv_29 hc_239.2 (by decide) (by decide)
          have iv_244 : IV r_54 1 1 := iv_neL h_58 iv_55 (show IV 0 0 0 from (by decide)) (by decide)
          refine k_iconst (v := 2) X dX11_manLine_73 (by decide) ?_
          refine k_goto 92 X dX11_manLine_74 (by decide) ?_
          refine k_istore_n [(2, .int 2), (1, .int z_11), (0, .ref h0)] X dX11_manLine_92 (by decide) rfl ?_
          refine k_iload_n X dX11_manLine_93 0 rfl ?_
          refine k_if_ge 106 X dX11_manLine_94 (by decide) (fun _ => ?_) (fun h_245 => absurd (by decide) h_245)
          refine k_aload_n X dX11_manLine_106 2 rfl ?_
          refine k_get (ci := 11) X inlX11 rfl 13 (by decide) dX11_manLine_107 mw469 2 rfl rfl ?_
          refine k_if_eq 114 X dX11_manLine_110 (by decide) (fun h_246 => ?_) (fun h_246 => absurd (iv_eq iv_243 (show IV 0 0 0 from (by decide))) h_246)
          refine k_aload_n X dX11_manLine_114 2 rfl ?_
          refine k_callVV (n := 0) (As := []) (st := []) X [(cO11_i1r1i10r1i2r5i2r12i3r4i2 h0 m_thrown a_tape m_taped m_size m_at2_17 m_end2_18 m_token2_25 m_whole2_26 m_nameSize2_23 m_fault2_20 m_place2_24 m_trouble a_letters m_failed2_19 m_hasHouse a_r a_fresh a_st a_undone a_kept m_undos m_images a_from a_begin a_motor a_change a_startFrame a_changeFrame a_lostAt a_blackAt a_slips a_leftArc a_died a_arcs m_bestSum m_nearest m_nearestTown a_there a_backAt a_sorted a_parts m_seed1 m_darkNow), (cAI g a_tape 900 d_tape), (cAI g a_letters 8 d_letters2_22)] [(cAI g a_fresh 311 d_fresh2_21)] [2, 0, 3] [1] (m_nextX l g h0 m_thrown a_tape m_taped m_size m_at2_17 m_end2_18 m_token2_25 m_whole2_26 m_nameSize2_23 m_fault2_20 m_place2_24 m_trouble a_letters m_failed2_19 m_hasHouse a_r a_fresh a_st a_undone a_kept m_undos m_images a_from a_begin a_motor a_change a_startFrame a_changeFrame a_lostAt a_blackAt a_slips a_leftArc a_died a_arcs m_bestSum m_nearest m_nearestTown a_there a_backAt a_sorted a_parts m_seed1 m_darkNow d_tape d_letters2_22 (iv_w hv_m_size (by decide) (by decide)) (iv_w iv_28 (by decide) (by decide)) (iv_w iv_242 (by decide) (by decide))) dX11_manLine_115 mw489 mw490 mw491 mw5 mw492 rfl 11 rfl rfl 0 _ rfl yk_yX11_next_0 rfl (Nat.le_of_ble_eq_true rfl) (Nat.le_of_ble_eq_true rfl) (Nat.le_of_ble_eq_true rfl) (Nat.le_of_ble_eq_true rfl) (Nat.le_of_ble_eq_true rfl) rfl rfl (by decide) rfl (by decide) (by decide) ?_
          intro w zq
          refine exE6 zq ?_
          clear zq
          intro m_at2_247 m_end2_248 d_letters2_249 m_nameSize2_250 m_token2_251 m_whole2_252 iv_254 zq
          refine exA5 zq ?_
          clear zq
          intro iv_255 hq_256 hq_257 hq_258 hk_259 zq
          subst zq
          refine k_ws [(cAI g a_fresh 311 d_fresh2_21), (cO11_i1r1i10r1i2r5i2r12i3r4i2 h0 m_thrown a_tape m_taped m_size m_at2_247 m_end2_248 m_token2_251 m_whole2_252 m_nameSize2_250 m_fault2_20 m_place2_24 m_trouble a_letters m_failed2_19 m_hasHouse a_r a_fresh a_st a_undone a_kept m_undos m_images a_from a_begin a_motor a_change a_startFrame a_changeFrame a_lostAt a_blackAt a_slips a_leftArc a_died a_arcs m_bestSum m_nearest m_nearestTown a_there a_backAt a_sorted a_parts m_seed1 m_darkNow), (cAI g a_tape 900 d_tape), (cAI g a_letters 8 d_letters2_249)] rfl ?_
          refine k_iconst (v := 0) X dX11_manLine_118 (by decide) ?_
          refine k_istore_n [(3, .int 0), (2, .int 2), (1, .int z_11), (0, .ref h0)] X dX11_manLine_119 (by decide) rfl ?_
          refine k_iload_n X dX11_manLine_120 1 rfl ?_
          refine k_iconst (v := 3) X dX11_manLine_121 (by decide) ?_
          refine k_ic_ne 145 X dX11_manLine_122 (by decide) (fun _ => ?_) (fun h_260 => absurd h_260 (by decide))
          refine k_aload_n X dX11_manLine_145 3 rfl ?_
          refine k_ldcwS (tx := "slip") X dX11_manLine_146 (by decide +kernel) (fun sr_261 hsr_261 => ?_)
          refine k_iconst (v := 0) X dX11_manLine_149 (by decide) ?_
          refine k_bipush (v := 40) X dX11_manLine_150 (by decide) ?_
          refine k_callVI (n := 3) (As := [.ref sr_261, .int 0, .int 40]) (st := []) X [(cO11_i1r1i10r1i2r5i2r12i3r4i2 h0 m_thrown a_tape m_taped m_size m_at2_247 m_end2_248 m_token2_251 m_whole2_252 m_nameSize2_250 m_fault2_20 m_place2_24 m_trouble a_letters m_failed2_19 m_hasHouse a_r a_fresh a_st a_undone a_kept m_undos m_images a_from a_begin a_motor a_change a_startFrame a_changeFrame a_lostAt a_blackAt a_slips a_leftArc a_died a_arcs m_bestSum m_nearest m_nearestTown a_there a_backAt a_sorted a_parts m_seed1 m_darkNow), (cAI g a_tape 900 d_tape), (cAI g a_letters 8 d_letters2_249)] [(cAI g a_fresh 311 d_fresh2_21)] [1, 2, 3] [0] (m_afterX l g h0 sr_261 0 40 m_thrown a_tape m_taped m_size m_at2_247 m_end2_248 m_token2_251 m_whole2_252 m_nameSize2_250 m_fault2_20 m_place2_24 m_trouble a_letters m_failed2_19 m_hasHouse a_r a_fresh a_st a_undone a_kept m_undos m_images a_from a_begin a_motor a_change a_startFrame a_changeFrame a_lostAt a_blackAt a_slips a_leftArc a_died a_arcs m_bestSum m_nearest m_nearestTown a_there a_backAt a_sorted a_parts m_seed1 m_darkNow d_tape d_letters2_249 ("slip") (iv_w hv_m_size (by decide) (by decide)) (iv_w iv_254 (by decide) (by decide)) (iv_w iv_255 (by decide) (by decide)) (iv_w iv_243 (by decide) (by decide)) hsr_261 hk_259) dX11_manLine_152 mw523 mw524 mw525 mw5 mw526 rfl 11 rfl rfl 0 _ rfl yk_yX11_after_3 rfl (Nat.le_of_ble_eq_true rfl) (Nat.le_of_ble_eq_true rfl) (Nat.le_of_ble_eq_true rfl) (Nat.le_of_ble_eq_true rfl) (Nat.le_of_ble_eq_true rfl) rfl rfl (by decide) rfl (by decide) (by decide) ?_
          intro r_271 w zq
          refine exE9 zq ?_
          clear zq
          intro m_at2_262 m_end2_263 m_failed2_264 m_fault2_265 d_letters2_266 m_nameSize2_267 m_place2_268 m_token2_269 m_whole2_270 iv_272 zq
          refine exA6 zq ?_
          clear zq
          intro iv_273 iv_274 hq_275 hq_276 hq_277 hk_278 zq
          subst zq
          refine k_ws [(cAI g a_fresh 311 d_fresh2_21), (cO11_i1r1i10r1i2r5i2r12i3r4i2 h0 m_thrown a_tape m_taped m_size m_at2_262 m_end2_263 m_token2_269 m_whole2_270 m_nameSize2_267 m_fault2_265 m_place2_268 m_trouble a_letters m_failed2_264 m_hasHouse a_r a_fresh a_st a_undone a_kept m_undos m_images a_from a_begin a_motor a_change a_startFrame a_changeFrame a_lostAt a_blackAt a_slips a_leftArc a_died a_arcs m_bestSum m_nearest m_nearestTown a_there a_backAt a_sorted a_parts m_seed1 m_darkNow), (cAI g a_tape 900 d_tape), (cAI g a_letters 8 d_letters2_266)] rfl ?_
          have e_279 : (0 : Int32).toInt = 0 := by decide
          have e_280 : (40 : Int32).toInt = 40 := by decide
          have iv_281 : IV r_271 0 40 := by have := (show IV 0 0 0 from (by decide)); have := (show IV 40 40 40 from (by decide)); rw [IV]; omega
          refine k_istore [(4, .int r_271), (3, .int 0), (2, .int 2), (1, .int z_11), (0, .ref h0)] X dX11_manLine_155 (by decide) rfl ?_
          refine k_aload_n X dX11_manLine_157 4 rfl ?_
          refine k_get (ci := 11) X inlX11 rfl 13 (by decide) dX11_manLine_158 mw469 1 rfl rfl ?_
          refine k_if_eq 165 X dX11_manLine_161 (by decide) (fun h_282 => ?_) (fun h_282 => ?_)
          · skip
            have iv_283 : IV m_failed2_264 0 0 := iv_meet iv_273 (iv_e h_282 (show IV 0 0 0 from (by decide))) (by decide) (by decide)
            refine k_aload_n X dX11_manLine_165 4 rfl ?_
            refine k_get (ci := 11) X inlX11 rfl 16 (by decide) dX11_manLine_166 mw171 1 rfl rfl ?_
            refine k_iload_n X dX11_manLine_169 3 rfl ?_
            refine k_iload_n X dX11_manLine_170 2 rfl ?_
            refine k_iast [(cAI g a_fresh 311 (upd d_fresh2_21 (z_11 : Int32).toNatClampNeg 2)), (cO11_i1r1i10r1i2r5i2r12i3r4i2 h0 m_thrown a_tape m_taped m_size m_at2_262 m_end2_263 m_token2_269 m_whole2_270 m_nameSize2_267 m_fault2_265 m_place2_268 m_trouble a_letters m_failed2_264 m_hasHouse a_r a_fresh a_st a_undone a_kept m_undos m_images a_from a_begin a_motor a_change a_startFrame a_changeFrame a_lostAt a_blackAt a_slips a_leftArc a_died a_arcs m_bestSum m_nearest m_nearestTown a_there a_backAt a_sorted a_parts m_seed1 m_darkNow), (cAI g a_tape 900 d_tape), (cAI g a_letters 8 d_letters2_266)] X dX11_manLine_171 0 rfl (iv_in iv_13 (by decide) (by decide)) rfl ?_
            have i_286 : z_11.toInt = 114 + 3 * z_5.toInt := by omega
            refine (fun hg : ∀ fa_284 : Nat → Int32, fa_284 = upd d_fresh2_21 (z_11 : Int32).toNatClampNeg 2 → RInv fa_284 → K16 d_fresh2_21 fa_284 → Wk p l e _ s m args below meth c _ A g _ _ _ [(cAI g a_fresh 311 fa_284), (cO11_i1r1i10r1i2r5i2r12i3r4i2 h0 m_thrown a_tape m_taped m_size m_at2_262 m_end2_263 m_token2_269 m_whole2_270 m_nameSize2_267 m_fault2_265 m_place2_268 m_trouble a_letters m_failed2_264 m_hasHouse a_r a_fresh a_st a_undone a_kept m_undos m_images a_from a_begin a_motor a_change a_startFrame a_changeFrame a_lostAt a_blackAt a_slips a_leftArc a_died a_arcs m_bestSum m_nearest m_nearestTown a_there a_backAt a_sorted a_parts m_seed1 m_darkNow), (cAI g a_tape 900 d_tape), (cAI g a_letters 8 d_letters2_266)] _ _ _ => hg _ rfl (w_fr_114_3 hp_31 i_286 (iv_w iv_7 (by decide) (by decide))) (k16_u (z := z_11) (by have := iv_13; omega))) (fun fa_284 eq_288 hR_285 hk_287 => ?_)
            have ek_289 : z_5 = fa_284 (11 : Int32).toNatClampNeg := ek_37.trans (hk_287 _ (by decide)).symm
            have hT_290 : TRI fa_284 := by have := iv_13; exact tri_z (z := z_11) eq_288 hT_38 hp_31 (by omega) (by omega) (by omega) (by omega) (by omega)
            refine k_aload_n X dX11_manLine_172 4 rfl ?_
            refine k_get (ci := 11) X inlX11 rfl 16 (by decide) dX11_manLine_173 mw171 1 rfl rfl ?_
            refine k_iload_n X dX11_manLine_176 3 rfl ?_
            refine k_iconst (v := 1) X dX11_manLine_177 (by decide) ?_
            refine k_iadd X dX11_manLine_178 ?_
            refine k_nm (fun z_291 ez_291 => ?_)
            have i_292 : z_291.toInt = z_11.toInt + 1 := in_add ez_291 iv_13 (show IV 1 1 1 from (by decide)) (by decide) (by decide)
            have iv_293 : IV z_291 115 124 := iz1 i_292 iv_13 (by decide) (by decide)
            refine k_iload_n X dX11_manLine_179 1 rfl ?_
            refine k_iast [(cAI g a_fresh 311 (upd fa_284 (z_291 : Int32).toNatClampNeg 0)), (cO11_i1r1i10r1i2r5i2r12i3r4i2 h0 m_thrown a_tape m_taped m_size m_at2_262 m_end2_263 m_token2_269 m_whole2_270 m_nameSize2_267 m_fault2_265 m_place2_268 m_trouble a_letters m_failed2_264 m_hasHouse a_r a_fresh a_st a_undone a_kept m_undos m_images a_from a_begin a_motor a_change a_startFrame a_changeFrame a_lostAt a_blackAt a_slips a_leftArc a_died a_arcs m_bestSum m_nearest m_nearestTown a_there a_backAt a_sorted a_parts m_seed1 m_darkNow), (cAI g a_tape 900 d_tape), (cAI g a_letters 8 d_letters2_266)] X dX11_manLine_180 0 rfl (iv_in iv_293 (by decide) (by decide)) rfl ?_
            refine (fun hg : ∀ fa_294 : Nat → Int32, fa_294 = upd fa_284 (z_291 : Int32).toNatClampNeg 0 → RInv fa_294 → K16 fa_284 fa_294 → Wk p l e _ s m args below meth c _ A g _ _ _ [(cAI g a_fresh 311 fa_294), (cO11_i1r1i10r1i2r5i2r12i3r4i2 h0 m_thrown a_tape m_taped m_size m_at2_262 m_end2_263 m_token2_269 m_whole2_270 m_nameSize2_267 m_fault2_265 m_place2_268 m_trouble a_letters m_failed2_264 m_hasHouse a_r a_fresh a_st a_undone a_kept m_undos m_images a_from a_begin a_motor a_change a_startFrame a_changeFrame a_lostAt a_blackAt a_slips a_leftArc a_died a_arcs m_bestSum m_nearest m_nearestTown a_there a_backAt a_sorted a_parts m_seed1 m_darkNow), (cAI g a_tape 900 d_tape), (cAI g a_letters 8 d_letters2_266)] _ _ _ => hg _ rfl (w_zero hR_285) (k16_u (z := z_291) (by have := iv_293; omega))) (fun fa_294 eq_297 hR_295 hk_296 => ?_)
            have ek_298 : z_5 = fa_294 (11 : Int32).toNatClampNeg := ek_289.trans (hk_296 _ (by decide)).symm
            have hT_299 : TRI fa_294 := by have := iv_293; exact tri_z (z := z_291) eq_297 hT_290 hR_285 (by omega) (by omega) (by omega) (by omega) (by omega)
            refine k_aload_n X dX11_manLine_181 4 rfl ?_
            refine k_get (ci := 11) X inlX11 rfl 16 (by decide) dX11_manLine_182 mw171 1 rfl rfl ?_
            refine k_iload_n X dX11_manLine_185 3 rfl ?_
            refine k_iconst (v := 2) X dX11_manLine_186 (by decide) ?_
            refine k_iadd X dX11_manLine_187 ?_
            refine k_nm (fun z_300 ez_300 => ?_)
            have i_301 : z_300.toInt = z_11.toInt + 2 := in_add ez_300 iv_13 (show IV 2 2 2 from (by decide)) (by decide) (by decide)
            have iv_302 : IV z_300 116 125 := iz1 i_301 iv_13 (by decide) (by decide)
            refine k_iload X dX11_manLine_188 0 rfl ?_
            refine k_iast [(cAI g a_fresh 311 (upd fa_294 (z_300 : Int32).toNatClampNeg r_271)), (cO11_i1r1i10r1i2r5i2r12i3r4i2 h0 m_thrown a_tape m_taped m_size m_at2_262 m_end2_263 m_token2_269 m_whole2_270 m_nameSize2_267 m_fault2_265 m_place2_268 m_trouble a_letters m_failed2_264 m_hasHouse a_r a_fresh a_st a_undone a_kept m_undos m_images a_from a_begin a_motor a_change a_startFrame a_changeFrame a_lostAt a_blackAt a_slips a_leftArc a_died a_arcs m_bestSum m_nearest m_nearestTown a_there a_backAt a_sorted a_parts m_seed1 m_darkNow), (cAI g a_tape 900 d_tape), (cAI g a_letters 8 d_letters2_266)] X dX11_manLine_190 0 rfl (iv_in iv_302 (by decide) (by decide)) rfl ?_
            have i_305 : z_300.toInt = 116 + 3 * z_5.toInt := by omega
            refine (fun hg : ∀ fa_303 : Nat → Int32, fa_303 = upd fa_294 (z_300 : Int32).toNatClampNeg r_271 → RInv fa_303 → K16 fa_294 fa_303 → Wk p l e _ s m args below meth c _ A g _ _ _ [(cAI g a_fresh 311 fa_303), (cO11_i1r1i10r1i2r5i2r12i3r4i2 h0 m_thrown a_tape m_taped m_size m_at2_262 m_end2_263 m_token2_269 m_whole2_270 m_nameSize2_267 m_fault2_265 m_place2_268 m_trouble a_letters m_failed2_264 m_hasHouse a_r a_fresh a_st a_undone a_kept m_undos m_images a_from a_begin a_motor a_change a_startFrame a_changeFrame a_lostAt a_blackAt a_slips a_leftArc a_died a_arcs m_bestSum m_nearest m_nearestTown a_there a_backAt a_sorted a_parts m_seed1 m_darkNow), (cAI g a_tape 900 d_tape), (cAI g a_letters 8 d_letters2_266)] _ _ _ => hg _ rfl (w_rb_116_3 hR_295 i_305 (iv_w iv_7 (by decide) (by decide)) (iv_w iv_281 (by decide) (by decide))) (k16_u (z := z_300) (by have := iv_302; omega))) (fun fa_303 eq_307 hR_304 hk_306 => ?_)
            have ek_308 : z_5 = fa_303 (11 : Int32).toNatClampNeg := ek_298.trans (hk_306 _ (by decide)).symm
            have hT_309 : TRI fa_303 := by have := iv_302; exact tri_z (z := z_300) eq_307 hT_299 hR_295 (by omega) (by omega) (by omega) (by omega) (by omega)
            refine k_aload_n X dX11_manLine_191 4 rfl ?_
            refine k_get (ci := 11) X inlX11 rfl 16 (by decide) dX11_manLine_192 mw171 1 rfl rfl ?_
            refine k_bipush (v := 11) X dX11_manLine_195 (by decide) ?_
            refine k_dup2 X dX11_manLine_197 rfl rfl ?_
            refine k_iald X dX11_manLine_198 0 rfl (by unfold vp_in; decide) ?_
            refine k_to z_5 ek_308.symm ?_
            refine k_iconst (v := 1) X dX11_manLine_199 (by decide) ?_
            refine k_iadd X dX11_manLine_200 ?_
            refine k_nm (fun z_310 ez_310 => ?_)
            have i_311 : z_310.toInt = z_5.toInt + 1 := in_add ez_310 iv_7 (show IV 1 1 1 from (by decide)) (by decide) (by decide)
            have iv_312 : IV z_310 1 4 := iz1 i_311 iv_7 (by decide) (by decide)
            refine k_iast [(cAI g a_fresh 311 (upd fa_303 (11 : Int32).toNatClampNeg z_310)), (cO11_i1r1i10r1i2r5i2r12i3r4i2 h0 m_thrown a_tape m_taped m_size m_at2_262 m_end2_263 m_token2_269 m_whole2_270 m_nameSize2_267 m_fault2_265 m_place2_268 m_trouble a_letters m_failed2_264 m_hasHouse a_r a_fresh a_st a_undone a_kept m_undos m_images a_from a_begin a_motor a_change a_startFrame a_changeFrame a_lostAt a_blackAt a_slips a_leftArc a_died a_arcs m_bestSum m_nearest m_nearestTown a_there a_backAt a_sorted a_parts m_seed1 m_darkNow), (cAI g a_tape 900 d_tape), (cAI g a_letters 8 d_letters2_266)] X dX11_manLine_201 0 rfl (by unfold vp_in; decide) rfl ?_
            refine (fun hg : ∀ fa_313 : Nat → Int32, fa_313 = upd fa_303 (11 : Int32).toNatClampNeg z_310 → RInv fa_313 → Wk p l e _ s m args below meth c _ A g _ _ _ [(cAI g a_fresh 311 fa_313), (cO11_i1r1i10r1i2r5i2r12i3r4i2 h0 m_thrown a_tape m_taped m_size m_at2_262 m_end2_263 m_token2_269 m_whole2_270 m_nameSize2_267 m_fault2_265 m_place2_268 m_trouble a_letters m_failed2_264 m_hasHouse a_r a_fresh a_st a_undone a_kept m_undos m_images a_from a_begin a_motor a_change a_startFrame a_changeFrame a_lostAt a_blackAt a_slips a_leftArc a_died a_arcs m_bestSum m_nearest m_nearestTown a_there a_backAt a_sorted a_parts m_seed1 m_darkNow), (cAI g a_tape 900 d_tape), (cAI g a_letters 8 d_letters2_266)] _ _ _ => hg _ rfl (w_rb_11 hR_304 (iv_w iv_312 (by decide) (by decide)))) (fun fa_313 eq_316 hR_314 => ?_)
            have hT_317 : TRI fa_313 := by rw [eq_316]; exact tri_n (z := 11) hT_309 hR_304 (by decide) (by decide) (by decide) (by decide)
            exact k_vret X hr dX11_manLine_202 (Nat.le_of_ble_eq_true rfl) (Nat.le_of_ble_eq_true rfl) [1, 2, 3, 0] (by decide) rfl rfl ⟨m_at2_262, m_end2_263, m_failed2_264, m_fault2_265, fa_313, d_letters2_266, m_nameSize2_267, m_place2_268, m_token2_269, m_whole2_270, (iv_w iv_272 (by decide) (by decide)), (iv_w iv_283 (by decide) (by decide)), (iv_w iv_274 (by decide) (by decide)), hR_314, (by omega), hT_317, (Or.inl ⟨h_1, ⟨z_5, ez_5, ⟨z_8, ez_8, ⟨z_11, ez_11, ⟨z_14, ez_14, ⟨m_at2_17, m_end2_18, m_failed2_19, m_fault2_20, d_fresh2_21, d_letters2_22, m_nameSize2_23, m_place2_24, m_token2_25, m_whole2_26, hq_34, ⟨r_40, hq_42, (Or.inl ⟨h_44, ⟨r_47, hq_49, (Or.inl ⟨h_51, ⟨r_54, hq_56, (Or.inr ⟨h_58, ⟨m_at2_247, m_end2_248, d_letters2_249, m_nameSize2_250, m_token2_251, m_whole2_252, hq_258, ⟨m_at2_262, m_end2_263, m_failed2_264, m_fault2_265, d_letters2_266, m_nameSize2_267, m_place2_268, m_token2_269, m_whole2_270, r_271, hq_277, (Or.inl ⟨h_282, ⟨fa_284, eq_288, ⟨z_291, ez_291, ⟨fa_294, eq_297, ⟨z_300, ez_300, ⟨fa_303, eq_307, ⟨z_310, ez_310, ⟨fa_313, eq_316, ⟨rfl, rfl, rfl, rfl, rfl, rfl, rfl, rfl, rfl, rfl⟩⟩⟩⟩⟩⟩⟩⟩⟩)⟩⟩⟩)⟩⟩)⟩⟩)⟩⟩⟩⟩⟩⟩⟩), hk_278, rfl⟩
          · skip
            have iv_318 : IV m_failed2_264 1 1 := iv_neL h_282 iv_273 (show IV 0 0 0 from (by decide)) (by decide)
            exact k_vret X hr dX11_manLine_164 (Nat.le_of_ble_eq_true rfl) (Nat.le_of_ble_eq_true rfl) [1, 2, 3, 0] (by decide) rfl rfl ⟨m_at2_262, m_end2_263, m_failed2_264, m_fault2_265, d_fresh2_21, d_letters2_266, m_nameSize2_267, m_place2_268, m_token2_269, m_whole2_270, (iv_w iv_272 (by decide) (by decide)), (iv_w iv_318 (by decide) (by decide)), (iv_w iv_274 (by decide) (by decide)), hp_31, (by omega), hT_38, (Or.inl ⟨h_1, ⟨z_5, ez_5, ⟨z_8, ez_8, ⟨z_11, ez_11, ⟨z_14, ez_14, ⟨m_at2_17, m_end2_18, m_failed2_19, m_fault2_20, d_fresh2_21, d_letters2_22, m_nameSize2_23, m_place2_24, m_token2_25, m_whole2_26, hq_34, ⟨r_40, hq_42, (Or.inl ⟨h_44, ⟨r_47, hq_49, (Or.inl ⟨h_51, ⟨r_54, hq_56, (Or.inr ⟨h_58, ⟨m_at2_247, m_end2_248, d_letters2_249, m_nameSize2_250, m_token2_251, m_whole2_252, hq_258, ⟨m_at2_262, m_end2_263, m_failed2_264, m_fault2_265, d_letters2_266, m_nameSize2_267, m_place2_268, m_token2_269, m_whole2_270, r_271, hq_277, (Or.inr ⟨h_282, ⟨rfl, rfl, rfl, rfl, rfl, rfl, rfl, rfl, rfl, rfl⟩⟩)⟩⟩⟩)⟩⟩)⟩⟩)⟩⟩⟩⟩⟩⟩⟩), hk_278, rfl⟩
      · skip
        have hc_319 := hk_50.resolve_left h_51
        have iv_320 : IV m_token2_25 2 2 := iv_meet (iv_any m_token2_25) hc_319.1 (by decide) (by decide)
        have hc_321 := hk_35 (iv_eq iv_320 (show IV 2 2 2 from (by decide)))
        have iv_322 : IV m_nameSize2_23 0 8 := iv_meet iv_30 hc_321 (by decide) (by decide)
        have iv_323 : IV m_failed2_19 0 0 := iv_meet iv_29 hc_319.2 (by decide) (by decide)
        have iv_324 : IV r_47 1 1 := iv_neL h_51 iv_48 (show IV 0 0 0 from (by decide)) (by decide)
        refine k_iconst (v := 1) X dX11_manLine_59 (by decide) ?_
        refine k_goto 92 X dX11_manLine_60 (by decide) ?_
        refine k_istore_n [(2, .int 1), (1, .int z_11), (0, .ref h0)] X dX11_manLine_92 (by decide) rfl ?_
        refine k_iload_n X dX11_manLine_93 0 rfl ?_
        refine k_if_ge 106 X dX11_manLine_94 (by decide) (fun _ => ?_) (fun h_325 => absurd (by decide) h_325)
        refine k_aload_n X dX11_manLine_106 2 rfl ?_
        refine k_get (ci := 11) X inlX11 rfl 13 (by decide) dX11_manLine_107 mw469 2 rfl rfl ?_
        refine k_if_eq 114 X dX11_manLine_110 (by decide) (fun h_326 => ?_) (fun h_326 => absurd (iv_eq iv_323 (show IV 0 0 0 from (by decide))) h_326)
        refine k_aload_n X dX11_manLine_114 2 rfl ?_
        refine k_callVV (n := 0) (As := []) (st := []) X [(cO11_i1r1i10r1i2r5i2r12i3r4i2 h0 m_thrown a_tape m_taped m_size m_at2_17 m_end2_18 m_token2_25 m_whole2_26 m_nameSize2_23 m_fault2_20 m_place2_24 m_trouble a_letters m_failed2_19 m_hasHouse a_r a_fresh a_st a_undone a_kept m_undos m_images a_from a_begin a_motor a_change a_startFrame a_changeFrame a_lostAt a_blackAt a_slips a_leftArc a_died a_arcs m_bestSum m_nearest m_nearestTown a_there a_backAt a_sorted a_parts m_seed1 m_darkNow), (cAI g a_tape 900 d_tape), (cAI g a_letters 8 d_letters2_22)] [(cAI g a_fresh 311 d_fresh2_21)] [2, 0, 3] [1] (m_nextX l g h0 m_thrown a_tape m_taped m_size m_at2_17 m_end2_18 m_token2_25 m_whole2_26 m_nameSize2_23 m_fault2_20 m_place2_24 m_trouble a_letters m_failed2_19 m_hasHouse a_r a_fresh a_st a_undone a_kept m_undos m_images a_from a_begin a_motor a_change a_startFrame a_changeFrame a_lostAt a_blackAt a_slips a_leftArc a_died a_arcs m_bestSum m_nearest m_nearestTown a_there a_backAt a_sorted a_parts m_seed1 m_darkNow d_tape d_letters2_22 (iv_w hv_m_size (by decide) (by decide)) (iv_w iv_28 (by decide) (by decide)) (iv_w iv_322 (by decide) (by decide))) dX11_manLine_115 mw489 mw490 mw491 mw5 mw492 rfl 11 rfl rfl 0 _ rfl yk_yX11_next_0 rfl (Nat.le_of_ble_eq_true rfl) (Nat.le_of_ble_eq_true rfl) (Nat.le_of_ble_eq_true rfl) (Nat.le_of_ble_eq_true rfl) (Nat.le_of_ble_eq_true rfl) rfl rfl (by decide) rfl (by decide) (by decide) ?_
        intro w zq
        refine exE6 zq ?_
        clear zq
        intro m_at2_327 m_end2_328 d_letters2_329 m_nameSize2_330 m_token2_331 m_whole2_332 iv_334 zq
        refine exA5 zq ?_
        clear zq
        intro iv_335 hq_336 hq_337 hq_338 hk_339 zq
        subst zq
        refine k_ws [(cAI g a_fresh 311 d_fresh2_21), (cO11_i1r1i10r1i2r5i2r12i3r4i2 h0 m_thrown a_tape m_taped m_size m_at2_327 m_end2_328 m_token2_331 m_whole2_332 m_nameSize2_330 m_fault2_20 m_place2_24 m_trouble a_letters m_failed2_19 m_hasHouse a_r a_fresh a_st a_undone a_kept m_undos m_images a_from a_begin a_motor a_change a_startFrame a_changeFrame a_lostAt a_blackAt a_slips a_leftArc a_died a_arcs m_bestSum m_nearest m_nearestTown a_there a_backAt a_sorted a_parts m_seed1 m_darkNow), (cAI g a_tape 900 d_tape), (cAI g a_letters 8 d_letters2_329)] rfl ?_
        refine k_iconst (v := 0) X dX11_manLine_118 (by decide) ?_
        refine k_istore_n [(3, .int 0), (2, .int 1), (1, .int z_11), (0, .ref h0)] X dX11_manLine_119 (by decide) rfl ?_
        refine k_iload_n X dX11_manLine_120 1 rfl ?_
        refine k_iconst (v := 3) X dX11_manLine_121 (by decide) ?_
        refine k_ic_ne 145 X dX11_manLine_122 (by decide) (fun _ => ?_) (fun h_340 => absurd h_340 (by decide))
        refine k_aload_n X dX11_manLine_145 3 rfl ?_
        refine k_ldcwS (tx := "slip") X dX11_manLine_146 (by decide +kernel) (fun sr_341 hsr_341 => ?_)
        refine k_iconst (v := 0) X dX11_manLine_149 (by decide) ?_
        refine k_bipush (v := 40) X dX11_manLine_150 (by decide) ?_
        refine k_callVI (n := 3) (As := [.ref sr_341, .int 0, .int 40]) (st := []) X [(cO11_i1r1i10r1i2r5i2r12i3r4i2 h0 m_thrown a_tape m_taped m_size m_at2_327 m_end2_328 m_token2_331 m_whole2_332 m_nameSize2_330 m_fault2_20 m_place2_24 m_trouble a_letters m_failed2_19 m_hasHouse a_r a_fresh a_st a_undone a_kept m_undos m_images a_from a_begin a_motor a_change a_startFrame a_changeFrame a_lostAt a_blackAt a_slips a_leftArc a_died a_arcs m_bestSum m_nearest m_nearestTown a_there a_backAt a_sorted a_parts m_seed1 m_darkNow), (cAI g a_tape 900 d_tape), (cAI g a_letters 8 d_letters2_329)] [(cAI g a_fresh 311 d_fresh2_21)] [1, 2, 3] [0] (m_afterX l g h0 sr_341 0 40 m_thrown a_tape m_taped m_size m_at2_327 m_end2_328 m_token2_331 m_whole2_332 m_nameSize2_330 m_fault2_20 m_place2_24 m_trouble a_letters m_failed2_19 m_hasHouse a_r a_fresh a_st a_undone a_kept m_undos m_images a_from a_begin a_motor a_change a_startFrame a_changeFrame a_lostAt a_blackAt a_slips a_leftArc a_died a_arcs m_bestSum m_nearest m_nearestTown a_there a_backAt a_sorted a_parts m_seed1 m_darkNow d_tape d_letters2_329 ("slip") (iv_w hv_m_size (by decide) (by decide)) (iv_w iv_334 (by decide) (by decide)) (iv_w iv_335 (by decide) (by decide)) (iv_w iv_323 (by decide) (by decide)) hsr_341 hk_339) dX11_manLine_152 mw523 mw524 mw525 mw5 mw526 rfl 11 rfl rfl 0 _ rfl yk_yX11_after_3 rfl (Nat.le_of_ble_eq_true rfl) (Nat.le_of_ble_eq_true rfl) (Nat.le_of_ble_eq_true rfl) (Nat.le_of_ble_eq_true rfl) (Nat.le_of_ble_eq_true rfl) rfl rfl (by decide) rfl (by decide) (by decide) ?_
        intro r_351 w zq
        refine exE9 zq ?_
        clear zq
        intro m_at2_342 m_end2_343 m_failed2_344 m_fault2_345 d_letters2_346 m_nameSize2_347 m_place2_348 m_token2_349 m_whole2_350 iv_352 zq
        refine exA6 zq ?_
        clear zq
        intro iv_353 iv_354 hq_355 hq_356 hq_357 hk_358 zq
        subst zq
        refine k_ws [(cAI g a_fresh 311 d_fresh2_21), (cO11_i1r1i10r1i2r5i2r12i3r4i2 h0 m_thrown a_tape m_taped m_size m_at2_342 m_end2_343 m_token2_349 m_whole2_350 m_nameSize2_347 m_fault2_345 m_place2_348 m_trouble a_letters m_failed2_344 m_hasHouse a_r a_fresh a_st a_undone a_kept m_undos m_images a_from a_begin a_motor a_change a_startFrame a_changeFrame a_lostAt a_blackAt a_slips a_leftArc a_died a_arcs m_bestSum m_nearest m_nearestTown a_there a_backAt a_sorted a_parts m_seed1 m_darkNow), (cAI g a_tape 900 d_tape), (cAI g a_letters 8 d_letters2_346)] rfl ?_
        have e_359 : (0 : Int32).toInt = 0 := by decide
        have e_360 : (40 : Int32).toInt = 40 := by decide
        have iv_361 : IV r_351 0 40 := by have := (show IV 0 0 0 from (by decide)); have := (show IV 40 40 40 from (by decide)); rw [IV]; omega
        refine k_istore [(4, .int r_351), (3, .int 0), (2, .int 1), (1, .int z_11), (0, .ref h0)] X dX11_manLine_155 (by decide) rfl ?_
        refine k_aload_n X dX11_manLine_157 4 rfl ?_
        refine k_get (ci := 11) X inlX11 rfl 13 (by decide) dX11_manLine_158 mw469 1 rfl rfl ?_
        refine k_if_eq 165 X dX11_manLine_161 (by decide) (fun h_362 => ?_) (fun h_362 => ?_)
        · skip
          have iv_363 : IV m_failed2_344 0 0 := iv_meet iv_353 (iv_e h_362 (show IV 0 0 0 from (by decide))) (by decide) (by decide)
          refine k_aload_n X dX11_manLine_165 4 rfl ?_
          refine k_get (ci := 11) X inlX11 rfl 16 (by decide) dX11_manLine_166 mw171 1 rfl rfl ?_
          refine k_iload_n X dX11_manLine_169 3 rfl ?_
          refine k_iload_n X dX11_manLine_170 2 rfl ?_
          refine k_iast [(cAI g a_fresh 311 (upd d_fresh2_21 (z_11 : Int32).toNatClampNeg 1)), (cO11_i1r1i10r1i2r5i2r12i3r4i2 h0 m_thrown a_tape m_taped m_size m_at2_342 m_end2_343 m_token2_349 m_whole2_350 m_nameSize2_347 m_fault2_345 m_place2_348 m_trouble a_letters m_failed2_344 m_hasHouse a_r a_fresh a_st a_undone a_kept m_undos m_images a_from a_begin a_motor a_change a_startFrame a_changeFrame a_lostAt a_blackAt a_slips a_leftArc a_died a_arcs m_bestSum m_nearest m_nearestTown a_there a_backAt a_sorted a_parts m_seed1 m_darkNow), (cAI g a_tape 900 d_tape), (cAI g a_letters 8 d_letters2_346)] X dX11_manLine_171 0 rfl (iv_in iv_13 (by decide) (by decide)) rfl ?_
          have i_366 : z_11.toInt = 114 + 3 * z_5.toInt := by omega
          refine (fun hg : ∀ fa_364 : Nat → Int32, fa_364 = upd d_fresh2_21 (z_11 : Int32).toNatClampNeg 1 → RInv fa_364 → K16 d_fresh2_21 fa_364 → Wk p l e _ s m args below meth c _ A g _ _ _ [(cAI g a_fresh 311 fa_364), (cO11_i1r1i10r1i2r5i2r12i3r4i2 h0 m_thrown a_tape m_taped m_size m_at2_342 m_end2_343 m_token2_349 m_whole2_350 m_nameSize2_347 m_fault2_345 m_place2_348 m_trouble a_letters m_failed2_344 m_hasHouse a_r a_fresh a_st a_undone a_kept m_undos m_images a_from a_begin a_motor a_change a_startFrame a_changeFrame a_lostAt a_blackAt a_slips a_leftArc a_died a_arcs m_bestSum m_nearest m_nearestTown a_there a_backAt a_sorted a_parts m_seed1 m_darkNow), (cAI g a_tape 900 d_tape), (cAI g a_letters 8 d_letters2_346)] _ _ _ => hg _ rfl (w_fr_114_3 hp_31 i_366 (iv_w iv_7 (by decide) (by decide))) (k16_u (z := z_11) (by have := iv_13; omega))) (fun fa_364 eq_368 hR_365 hk_367 => ?_)
          have ek_369 : z_5 = fa_364 (11 : Int32).toNatClampNeg := ek_37.trans (hk_367 _ (by decide)).symm
          have hT_370 : TRI fa_364 := by have := iv_13; exact tri_z (z := z_11) eq_368 hT_38 hp_31 (by omega) (by omega) (by omega) (by omega) (by omega)
          refine k_aload_n X dX11_manLine_172 4 rfl ?_
          refine k_get (ci := 11) X inlX11 rfl 16 (by decide) dX11_manLine_173 mw171 1 rfl rfl ?_
          refine k_iload_n X dX11_manLine_176 3 rfl ?_
          refine k_iconst (v := 1) X dX11_manLine_177 (by decide) ?_
          refine k_iadd X dX11_manLine_178 ?_
          refine k_nm (fun z_371 ez_371 => ?_)
          have i_372 : z_371.toInt = z_11.toInt + 1 := in_add ez_371 iv_13 (show IV 1 1 1 from (by decide)) (by decide) (by decide)
          have iv_373 : IV z_371 115 124 := iz1 i_372 iv_13 (by decide) (by decide)
          refine k_iload_n X dX11_manLine_179 1 rfl ?_
          refine k_iast [(cAI g a_fresh 311 (upd fa_364 (z_371 : Int32).toNatClampNeg 0)), (cO11_i1r1i10r1i2r5i2r12i3r4i2 h0 m_thrown a_tape m_taped m_size m_at2_342 m_end2_343 m_token2_349 m_whole2_350 m_nameSize2_347 m_fault2_345 m_place2_348 m_trouble a_letters m_failed2_344 m_hasHouse a_r a_fresh a_st a_undone a_kept m_undos m_images a_from a_begin a_motor a_change a_startFrame a_changeFrame a_lostAt a_blackAt a_slips a_leftArc a_died a_arcs m_bestSum m_nearest m_nearestTown a_there a_backAt a_sorted a_parts m_seed1 m_darkNow), (cAI g a_tape 900 d_tape), (cAI g a_letters 8 d_letters2_346)] X dX11_manLine_180 0 rfl (iv_in iv_373 (by decide) (by decide)) rfl ?_
          refine (fun hg : ∀ fa_374 : Nat → Int32, fa_374 = upd fa_364 (z_371 : Int32).toNatClampNeg 0 → RInv fa_374 → K16 fa_364 fa_374 → Wk p l e _ s m args below meth c _ A g _ _ _ [(cAI g a_fresh 311 fa_374), (cO11_i1r1i10r1i2r5i2r12i3r4i2 h0 m_thrown a_tape m_taped m_size m_at2_342 m_end2_343 m_token2_349 m_whole2_350 m_nameSize2_347 m_fault2_345 m_place2_348 m_trouble a_letters m_failed2_344 m_hasHouse a_r a_fresh a_st a_undone a_kept m_undos m_images a_from a_begin a_motor a_change a_startFrame a_changeFrame a_lostAt a_blackAt a_slips a_leftArc a_died a_arcs m_bestSum m_nearest m_nearestTown a_there a_backAt a_sorted a_parts m_seed1 m_darkNow), (cAI g a_tape 900 d_tape), (cAI g a_letters 8 d_letters2_346)] _ _ _ => hg _ rfl (w_zero hR_365) (k16_u (z := z_371) (by have := iv_373; omega))) (fun fa_374 eq_377 hR_375 hk_376 => ?_)
          have ek_378 : z_5 = fa_374 (11 : Int32).toNatClampNeg := ek_369.trans (hk_376 _ (by decide)).symm
          have hT_379 : TRI fa_374 := by have := iv_373; exact tri_z (z := z_371) eq_377 hT_370 hR_365 (by omega) (by omega) (by omega) (by omega) (by omega)
          refine k_aload_n X dX11_manLine_181 4 rfl ?_
          refine k_get (ci := 11) X inlX11 rfl 16 (by decide) dX11_manLine_182 mw171 1 rfl rfl ?_
          refine k_iload_n X dX11_manLine_185 3 rfl ?_
          refine k_iconst (v := 2) X dX11_manLine_186 (by decide) ?_
          refine k_iadd X dX11_manLine_187 ?_
          refine k_nm (fun z_380 ez_380 => ?_)
          have i_381 : z_380.toInt = z_11.toInt + 2 := in_add ez_380 iv_13 (show IV 2 2 2 from (by decide)) (by decide) (by decide)
          have iv_382 : IV z_380 116 125 := iz1 i_381 iv_13 (by decide) (by decide)
          refine k_iload X dX11_manLine_188 0 rfl ?_
          refine k_iast [(cAI g a_fresh 311 (upd fa_374 (z_380 : Int32).toNatClampNeg r_351)), (cO11_i1r1i10r1i2r5i2r12i3r4i2 h0 m_thrown a_tape m_taped m_size m_at2_342 m_end2_343 m_token2_349 m_whole2_350 m_nameSize2_347 m_fault2_345 m_place2_348 m_trouble a_letters m_failed2_344 m_hasHouse a_r a_fresh a_st a_undone a_kept m_undos m_images a_from a_begin a_motor a_change a_startFrame a_changeFrame a_lostAt a_blackAt a_slips a_leftArc a_died a_arcs m_bestSum m_nearest m_nearestTown a_there a_backAt a_sorted a_parts m_seed1 m_darkNow), (cAI g a_tape 900 d_tape), (cAI g a_letters 8 d_letters2_346)] X dX11_manLine_190 0 rfl (iv_in iv_382 (by decide) (by decide)) rfl ?_
          have i_385 : z_380.toInt = 116 + 3 * z_5.toInt := by omega
          refine (fun hg : ∀ fa_383 : Nat → Int32, fa_383 = upd fa_374 (z_380 : Int32).toNatClampNeg r_351 → RInv fa_383 → K16 fa_374 fa_383 → Wk p l e _ s m args below meth c _ A g _ _ _ [(cAI g a_fresh 311 fa_383), (cO11_i1r1i10r1i2r5i2r12i3r4i2 h0 m_thrown a_tape m_taped m_size m_at2_342 m_end2_343 m_token2_349 m_whole2_350 m_nameSize2_347 m_fault2_345 m_place2_348 m_trouble a_letters m_failed2_344 m_hasHouse a_r a_fresh a_st a_undone a_kept m_undos m_images a_from a_begin a_motor a_change a_startFrame a_changeFrame a_lostAt a_blackAt a_slips a_leftArc a_died a_arcs m_bestSum m_nearest m_nearestTown a_there a_backAt a_sorted a_parts m_seed1 m_darkNow), (cAI g a_tape 900 d_tape), (cAI g a_letters 8 d_letters2_346)] _ _ _ => hg _ rfl (w_rb_116_3 hR_375 i_385 (iv_w iv_7 (by decide) (by decide)) (iv_w iv_361 (by decide) (by decide))) (k16_u (z := z_380) (by have := iv_382; omega))) (fun fa_383 eq_387 hR_384 hk_386 => ?_)
          have ek_388 : z_5 = fa_383 (11 : Int32).toNatClampNeg := ek_378.trans (hk_386 _ (by decide)).symm
          have hT_389 : TRI fa_383 := by have := iv_382; exact tri_z (z := z_380) eq_387 hT_379 hR_375 (by omega) (by omega) (by omega) (by omega) (by omega)
          refine k_aload_n X dX11_manLine_191 4 rfl ?_
          refine k_get (ci := 11) X inlX11 rfl 16 (by decide) dX11_manLine_192 mw171 1 rfl rfl ?_
          refine k_bipush (v := 11) X dX11_manLine_195 (by decide) ?_
          refine k_dup2 X dX11_manLine_197 rfl rfl ?_
          refine k_iald X dX11_manLine_198 0 rfl (by unfold vp_in; decide) ?_
          refine k_to z_5 ek_388.symm ?_
          refine k_iconst (v := 1) X dX11_manLine_199 (by decide) ?_
          refine k_iadd X dX11_manLine_200 ?_
          refine k_nm (fun z_390 ez_390 => ?_)
          have i_391 : z_390.toInt = z_5.toInt + 1 := in_add ez_390 iv_7 (show IV 1 1 1 from (by decide)) (by decide) (by decide)
          have iv_392 : IV z_390 1 4 := iz1 i_391 iv_7 (by decide) (by decide)
          refine k_iast [(cAI g a_fresh 311 (upd fa_383 (11 : Int32).toNatClampNeg z_390)), (cO11_i1r1i10r1i2r5i2r12i3r4i2 h0 m_thrown a_tape m_taped m_size m_at2_342 m_end2_343 m_token2_349 m_whole2_350 m_nameSize2_347 m_fault2_345 m_place2_348 m_trouble a_letters m_failed2_344 m_hasHouse a_r a_fresh a_st a_undone a_kept m_undos m_images a_from a_begin a_motor a_change a_startFrame a_changeFrame a_lostAt a_blackAt a_slips a_leftArc a_died a_arcs m_bestSum m_nearest m_nearestTown a_there a_backAt a_sorted a_parts m_seed1 m_darkNow), (cAI g a_tape 900 d_tape), (cAI g a_letters 8 d_letters2_346)] X dX11_manLine_201 0 rfl (by unfold vp_in; decide) rfl ?_
          refine (fun hg : ∀ fa_393 : Nat → Int32, fa_393 = upd fa_383 (11 : Int32).toNatClampNeg z_390 → RInv fa_393 → Wk p l e _ s m args below meth c _ A g _ _ _ [(cAI g a_fresh 311 fa_393), (cO11_i1r1i10r1i2r5i2r12i3r4i2 h0 m_thrown a_tape m_taped m_size m_at2_342 m_end2_343 m_token2_349 m_whole2_350 m_nameSize2_347 m_fault2_345 m_place2_348 m_trouble a_letters m_failed2_344 m_hasHouse a_r a_fresh a_st a_undone a_kept m_undos m_images a_from a_begin a_motor a_change a_startFrame a_changeFrame a_lostAt a_blackAt a_slips a_leftArc a_died a_arcs m_bestSum m_nearest m_nearestTown a_there a_backAt a_sorted a_parts m_seed1 m_darkNow), (cAI g a_tape 900 d_tape), (cAI g a_letters 8 d_letters2_346)] _ _ _ => hg _ rfl (w_rb_11 hR_384 (iv_w iv_392 (by decide) (by decide)))) (fun fa_393 eq_396 hR_394 => ?_)
          have hT_397 : TRI fa_393 := by rw [eq_396]; exact tri_n (z := 11) hT_389 hR_384 (by decide) (by decide) (by decide) (by decide)
          exact k_vret X hr dX11_manLine_202 (Nat.le_of_ble_eq_true rfl) (Nat.le_of_ble_eq_true rfl) [1, 2, 3, 0] (by decide) rfl rfl ⟨m_at2_342, m_end2_343, m_failed2_344, m_fault2_345, fa_393, d_letters2_346, m_nameSize2_347, m_place2_348, m_token2_349, m_whole2_350, (iv_w iv_352 (by decide) (by decide)), (iv_w iv_363 (by decide) (by decide)), (iv_w iv_354 (by decide) (by decide)), hR_394, (by omega), hT_397, (Or.inl ⟨h_1, ⟨z_5, ez_5, ⟨z_8, ez_8, ⟨z_11, ez_11, ⟨z_14, ez_14, ⟨m_at2_17, m_end2_18, m_failed2_19, m_fault2_20, d_fresh2_21, d_letters2_22, m_nameSize2_23, m_place2_24, m_token2_25, m_whole2_26, hq_34, ⟨r_40, hq_42, (Or.inl ⟨h_44, ⟨r_47, hq_49, (Or.inr ⟨h_51, ⟨m_at2_327, m_end2_328, d_letters2_329, m_nameSize2_330, m_token2_331, m_whole2_332, hq_338, ⟨m_at2_342, m_end2_343, m_failed2_344, m_fault2_345, d_letters2_346, m_nameSize2_347, m_place2_348, m_token2_349, m_whole2_350, r_351, hq_357, (Or.inl ⟨h_362, ⟨fa_364, eq_368, ⟨z_371, ez_371, ⟨fa_374, eq_377, ⟨z_380, ez_380, ⟨fa_383, eq_387, ⟨z_390, ez_390, ⟨fa_393, eq_396, ⟨rfl, rfl, rfl, rfl, rfl, rfl, rfl, rfl, rfl, rfl⟩⟩⟩⟩⟩⟩⟩⟩⟩)⟩⟩⟩)⟩⟩)⟩⟩⟩⟩⟩⟩⟩), hk_358, rfl⟩
        · skip
          have iv_398 : IV m_failed2_344 1 1 := iv_neL h_362 iv_353 (show IV 0 0 0 from (by decide)) (by decide)
          exact k_vret X hr dX11_manLine_164 (Nat.le_of_ble_eq_true rfl) (Nat.le_of_ble_eq_true rfl) [1, 2, 3, 0] (by decide) rfl rfl ⟨m_at2_342, m_end2_343, m_failed2_344, m_fault2_345, d_fresh2_21, d_letters2_346, m_nameSize2_347, m_place2_348, m_token2_349, m_whole2_350, (iv_w iv_352 (by decide) (by decide)), (iv_w iv_398 (by decide) (by decide)), (iv_w iv_354 (by decide) (by decide)), hp_31, (by omega), hT_38, (Or.inl ⟨h_1, ⟨z_5, ez_5, ⟨z_8, ez_8, ⟨z_11, ez_11, ⟨z_14, ez_14, ⟨m_at2_17, m_end2_18, m_failed2_19, m_fault2_20, d_fresh2_21, d_letters2_22, m_nameSize2_23, m_place2_24, m_token2_25, m_whole2_26, hq_34, ⟨r_40, hq_42, (Or.inl ⟨h_44, ⟨r_47, hq_49, (Or.inr ⟨h_51, ⟨m_at2_327, m_end2_328, d_letters2_329, m_nameSize2_330, m_token2_331, m_whole2_332, hq_338, ⟨m_at2_342, m_end2_343, m_failed2_344, m_fault2_345, d_letters2_346, m_nameSize2_347, m_place2_348, m_token2_349, m_whole2_350, r_351, hq_357, (Or.inr ⟨h_362, ⟨rfl, rfl, rfl, rfl, rfl, rfl, rfl, rfl, rfl, rfl⟩⟩)⟩⟩⟩)⟩⟩)⟩⟩⟩⟩⟩⟩⟩), hk_358, rfl⟩
    · skip
      have hc_399 := hk_43.resolve_left h_44
      have iv_400 : IV m_token2_25 2 2 := iv_meet (iv_any m_token2_25) hc_399.1 (by decide) (by decide)
      have hc_401 := hk_35 (iv_eq iv_400 (show IV 2 2 2 from (by decide)))
      have iv_402 : IV m_nameSize2_23 0 8 := iv_meet iv_30 hc_401 (by decide) (by decide)
      have iv_403 : IV m_failed2_19 0 0 := iv_meet iv_29 hc_399.2 (by decide) (by decide)
      have iv_404 : IV r_40 1 1 := iv_neL h_44 iv_41 (show IV 0 0 0 from (by decide)) (by decide)
      refine k_iconst (v := 0) X dX11_manLine_45 (by decide) ?_
      refine k_goto 92 X dX11_manLine_46 (by decide) ?_
      refine k_istore_n [(2, .int 0), (1, .int z_11), (0, .ref h0)] X dX11_manLine_92 (by decide) rfl ?_
      refine k_iload_n X dX11_manLine_93 0 rfl ?_
      refine k_if_ge 106 X dX11_manLine_94 (by decide) (fun _ => ?_) (fun h_405 => absurd (by decide) h_405)
      refine k_aload_n X dX11_manLine_106 2 rfl ?_
      refine k_get (ci := 11) X inlX11 rfl 13 (by decide) dX11_manLine_107 mw469 2 rfl rfl ?_
      refine k_if_eq 114 X dX11_manLine_110 (by decide) (fun h_406 => ?_) (fun h_406 => absurd (iv_eq iv_403 (show IV 0 0 0 from (by decide))) h_406)
      refine k_aload_n X dX11_manLine_114 2 rfl ?_
      refine k_callVV (n := 0) (As := []) (st := []) X [(cO11_i1r1i10r1i2r5i2r12i3r4i2 h0 m_thrown a_tape m_taped m_size m_at2_17 m_end2_18 m_token2_25 m_whole2_26 m_nameSize2_23 m_fault2_20 m_place2_24 m_trouble a_letters m_failed2_19 m_hasHouse a_r a_fresh a_st a_undone a_kept m_undos m_images a_from a_begin a_motor a_change a_startFrame a_changeFrame a_lostAt a_blackAt a_slips a_leftArc a_died a_arcs m_bestSum m_nearest m_nearestTown a_there a_backAt a_sorted a_parts m_seed1 m_darkNow), (cAI g a_tape 900 d_tape), (cAI g a_letters 8 d_letters2_22)] [(cAI g a_fresh 311 d_fresh2_21)] [2, 0, 3] [1] (m_nextX l g h0 m_thrown a_tape m_taped m_size m_at2_17 m_end2_18 m_token2_25 m_whole2_26 m_nameSize2_23 m_fault2_20 m_place2_24 m_trouble a_letters m_failed2_19 m_hasHouse a_r a_fresh a_st a_undone a_kept m_undos m_images a_from a_begin a_motor a_change a_startFrame a_changeFrame a_lostAt a_blackAt a_slips a_leftArc a_died a_arcs m_bestSum m_nearest m_nearestTown a_there a_backAt a_sorted a_parts m_seed1 m_darkNow d_tape d_letters2_22 (iv_w hv_m_size (by decide) (by decide)) (iv_w iv_28 (by decide) (by decide)) (iv_w iv_402 (by decide) (by decide))) dX11_manLine_115 mw489 mw490 mw491 mw5 mw492 rfl 11 rfl rfl 0 _ rfl yk_yX11_next_0 rfl (Nat.le_of_ble_eq_true rfl) (Nat.le_of_ble_eq_true rfl) (Nat.le_of_ble_eq_true rfl) (Nat.le_of_ble_eq_true rfl) (Nat.le_of_ble_eq_true rfl) rfl rfl (by decide) rfl (by decide) (by decide) ?_
      intro w zq
      refine exE6 zq ?_
      clear zq
      intro m_at2_407 m_end2_408 d_letters2_409 m_nameSize2_410 m_token2_411 m_whole2_412 iv_414 zq
      refine exA5 zq ?_
      clear zq
      intro iv_415 hq_416 hq_417 hq_418 hk_419 zq
      subst zq
      refine k_ws [(cAI g a_fresh 311 d_fresh2_21), (cO11_i1r1i10r1i2r5i2r12i3r4i2 h0 m_thrown a_tape m_taped m_size m_at2_407 m_end2_408 m_token2_411 m_whole2_412 m_nameSize2_410 m_fault2_20 m_place2_24 m_trouble a_letters m_failed2_19 m_hasHouse a_r a_fresh a_st a_undone a_kept m_undos m_images a_from a_begin a_motor a_change a_startFrame a_changeFrame a_lostAt a_blackAt a_slips a_leftArc a_died a_arcs m_bestSum m_nearest m_nearestTown a_there a_backAt a_sorted a_parts m_seed1 m_darkNow), (cAI g a_tape 900 d_tape), (cAI g a_letters 8 d_letters2_409)] rfl ?_
      refine k_iconst (v := 0) X dX11_manLine_118 (by decide) ?_
      refine k_istore_n [(3, .int 0), (2, .int 0), (1, .int z_11), (0, .ref h0)] X dX11_manLine_119 (by decide) rfl ?_
      refine k_iload_n X dX11_manLine_120 1 rfl ?_
      refine k_iconst (v := 3) X dX11_manLine_121 (by decide) ?_
      refine k_ic_ne 145 X dX11_manLine_122 (by decide) (fun _ => ?_) (fun h_420 => absurd h_420 (by decide))
      refine k_aload_n X dX11_manLine_145 3 rfl ?_
      refine k_ldcwS (tx := "slip") X dX11_manLine_146 (by decide +kernel) (fun sr_421 hsr_421 => ?_)
      refine k_iconst (v := 0) X dX11_manLine_149 (by decide) ?_
      refine k_bipush (v := 40) X dX11_manLine_150 (by decide) ?_
      refine k_callVI (n := 3) (As := [.ref sr_421, .int 0, .int 40]) (st := []) X [(cO11_i1r1i10r1i2r5i2r12i3r4i2 h0 m_thrown a_tape m_taped m_size m_at2_407 m_end2_408 m_token2_411 m_whole2_412 m_nameSize2_410 m_fault2_20 m_place2_24 m_trouble a_letters m_failed2_19 m_hasHouse a_r a_fresh a_st a_undone a_kept m_undos m_images a_from a_begin a_motor a_change a_startFrame a_changeFrame a_lostAt a_blackAt a_slips a_leftArc a_died a_arcs m_bestSum m_nearest m_nearestTown a_there a_backAt a_sorted a_parts m_seed1 m_darkNow), (cAI g a_tape 900 d_tape), (cAI g a_letters 8 d_letters2_409)] [(cAI g a_fresh 311 d_fresh2_21)] [1, 2, 3] [0] (m_afterX l g h0 sr_421 0 40 m_thrown a_tape m_taped m_size m_at2_407 m_end2_408 m_token2_411 m_whole2_412 m_nameSize2_410 m_fault2_20 m_place2_24 m_trouble a_letters m_failed2_19 m_hasHouse a_r a_fresh a_st a_undone a_kept m_undos m_images a_from a_begin a_motor a_change a_startFrame a_changeFrame a_lostAt a_blackAt a_slips a_leftArc a_died a_arcs m_bestSum m_nearest m_nearestTown a_there a_backAt a_sorted a_parts m_seed1 m_darkNow d_tape d_letters2_409 ("slip") (iv_w hv_m_size (by decide) (by decide)) (iv_w iv_414 (by decide) (by decide)) (iv_w iv_415 (by decide) (by decide)) (iv_w iv_403 (by decide) (by decide)) hsr_421 hk_419) dX11_manLine_152 mw523 mw524 mw525 mw5 mw526 rfl 11 rfl rfl 0 _ rfl yk_yX11_after_3 rfl (Nat.le_of_ble_eq_true rfl) (Nat.le_of_ble_eq_true rfl) (Nat.le_of_ble_eq_true rfl) (Nat.le_of_ble_eq_true rfl) (Nat.le_of_ble_eq_true rfl) rfl rfl (by decide) rfl (by decide) (by decide) ?_
      intro r_431 w zq
      refine exE9 zq ?_
      clear zq
      intro m_at2_422 m_end2_423 m_failed2_424 m_fault2_425 d_letters2_426 m_nameSize2_427 m_place2_428 m_token2_429 m_whole2_430 iv_432 zq
      refine exA6 zq ?_
      clear zq
      intro iv_433 iv_434 hq_435 hq_436 hq_437 hk_438 zq
      subst zq
      refine k_ws [(cAI g a_fresh 311 d_fresh2_21), (cO11_i1r1i10r1i2r5i2r12i3r4i2 h0 m_thrown a_tape m_taped m_size m_at2_422 m_end2_423 m_token2_429 m_whole2_430 m_nameSize2_427 m_fault2_425 m_place2_428 m_trouble a_letters m_failed2_424 m_hasHouse a_r a_fresh a_st a_undone a_kept m_undos m_images a_from a_begin a_motor a_change a_startFrame a_changeFrame a_lostAt a_blackAt a_slips a_leftArc a_died a_arcs m_bestSum m_nearest m_nearestTown a_there a_backAt a_sorted a_parts m_seed1 m_darkNow), (cAI g a_tape 900 d_tape), (cAI g a_letters 8 d_letters2_426)] rfl ?_
      have e_439 : (0 : Int32).toInt = 0 := by decide
      have e_440 : (40 : Int32).toInt = 40 := by decide
      have iv_441 : IV r_431 0 40 := by have := (show IV 0 0 0 from (by decide)); have := (show IV 40 40 40 from (by decide)); rw [IV]; omega
      refine k_istore [(4, .int r_431), (3, .int 0), (2, .int 0), (1, .int z_11), (0, .ref h0)] X dX11_manLine_155 (by decide) rfl ?_
      refine k_aload_n X dX11_manLine_157 4 rfl ?_
      refine k_get (ci := 11) X inlX11 rfl 13 (by decide) dX11_manLine_158 mw469 1 rfl rfl ?_
      refine k_if_eq 165 X dX11_manLine_161 (by decide) (fun h_442 => ?_) (fun h_442 => ?_)
      · skip
        have iv_443 : IV m_failed2_424 0 0 := iv_meet iv_433 (iv_e h_442 (show IV 0 0 0 from (by decide))) (by decide) (by decide)
        refine k_aload_n X dX11_manLine_165 4 rfl ?_
        refine k_get (ci := 11) X inlX11 rfl 16 (by decide) dX11_manLine_166 mw171 1 rfl rfl ?_
        refine k_iload_n X dX11_manLine_169 3 rfl ?_
        refine k_iload_n X dX11_manLine_170 2 rfl ?_
        refine k_iast [(cAI g a_fresh 311 (upd d_fresh2_21 (z_11 : Int32).toNatClampNeg 0)), (cO11_i1r1i10r1i2r5i2r12i3r4i2 h0 m_thrown a_tape m_taped m_size m_at2_422 m_end2_423 m_token2_429 m_whole2_430 m_nameSize2_427 m_fault2_425 m_place2_428 m_trouble a_letters m_failed2_424 m_hasHouse a_r a_fresh a_st a_undone a_kept m_undos m_images a_from a_begin a_motor a_change a_startFrame a_changeFrame a_lostAt a_blackAt a_slips a_leftArc a_died a_arcs m_bestSum m_nearest m_nearestTown a_there a_backAt a_sorted a_parts m_seed1 m_darkNow), (cAI g a_tape 900 d_tape), (cAI g a_letters 8 d_letters2_426)] X dX11_manLine_171 0 rfl (iv_in iv_13 (by decide) (by decide)) rfl ?_
        refine (fun hg : ∀ fa_444 : Nat → Int32, fa_444 = upd d_fresh2_21 (z_11 : Int32).toNatClampNeg 0 → RInv fa_444 → K16 d_fresh2_21 fa_444 → Wk p l e _ s m args below meth c _ A g _ _ _ [(cAI g a_fresh 311 fa_444), (cO11_i1r1i10r1i2r5i2r12i3r4i2 h0 m_thrown a_tape m_taped m_size m_at2_422 m_end2_423 m_token2_429 m_whole2_430 m_nameSize2_427 m_fault2_425 m_place2_428 m_trouble a_letters m_failed2_424 m_hasHouse a_r a_fresh a_st a_undone a_kept m_undos m_images a_from a_begin a_motor a_change a_startFrame a_changeFrame a_lostAt a_blackAt a_slips a_leftArc a_died a_arcs m_bestSum m_nearest m_nearestTown a_there a_backAt a_sorted a_parts m_seed1 m_darkNow), (cAI g a_tape 900 d_tape), (cAI g a_letters 8 d_letters2_426)] _ _ _ => hg _ rfl (w_zero hp_31) (k16_u (z := z_11) (by have := iv_13; omega))) (fun fa_444 eq_447 hR_445 hk_446 => ?_)
        have ek_448 : z_5 = fa_444 (11 : Int32).toNatClampNeg := ek_37.trans (hk_446 _ (by decide)).symm
        have hT_449 : TRI fa_444 := by have := iv_13; exact tri_z (z := z_11) eq_447 hT_38 hp_31 (by omega) (by omega) (by omega) (by omega) (by omega)
        refine k_aload_n X dX11_manLine_172 4 rfl ?_
        refine k_get (ci := 11) X inlX11 rfl 16 (by decide) dX11_manLine_173 mw171 1 rfl rfl ?_
        refine k_iload_n X dX11_manLine_176 3 rfl ?_
        refine k_iconst (v := 1) X dX11_manLine_177 (by decide) ?_
        refine k_iadd X dX11_manLine_178 ?_
        refine k_nm (fun z_450 ez_450 => ?_)
        have i_451 : z_450.toInt = z_11.toInt + 1 := in_add ez_450 iv_13 (show IV 1 1 1 from (by decide)) (by decide) (by decide)
        have iv_452 : IV z_450 115 124 := iz1 i_451 iv_13 (by decide) (by decide)
        refine k_iload_n X dX11_manLine_179 1 rfl ?_
        refine k_iast [(cAI g a_fresh 311 (upd fa_444 (z_450 : Int32).toNatClampNeg 0)), (cO11_i1r1i10r1i2r5i2r12i3r4i2 h0 m_thrown a_tape m_taped m_size m_at2_422 m_end2_423 m_token2_429 m_whole2_430 m_nameSize2_427 m_fault2_425 m_place2_428 m_trouble a_letters m_failed2_424 m_hasHouse a_r a_fresh a_st a_undone a_kept m_undos m_images a_from a_begin a_motor a_change a_startFrame a_changeFrame a_lostAt a_blackAt a_slips a_leftArc a_died a_arcs m_bestSum m_nearest m_nearestTown a_there a_backAt a_sorted a_parts m_seed1 m_darkNow), (cAI g a_tape 900 d_tape), (cAI g a_letters 8 d_letters2_426)] X dX11_manLine_180 0 rfl (iv_in iv_452 (by decide) (by decide)) rfl ?_
        refine (fun hg : ∀ fa_453 : Nat → Int32, fa_453 = upd fa_444 (z_450 : Int32).toNatClampNeg 0 → RInv fa_453 → K16 fa_444 fa_453 → Wk p l e _ s m args below meth c _ A g _ _ _ [(cAI g a_fresh 311 fa_453), (cO11_i1r1i10r1i2r5i2r12i3r4i2 h0 m_thrown a_tape m_taped m_size m_at2_422 m_end2_423 m_token2_429 m_whole2_430 m_nameSize2_427 m_fault2_425 m_place2_428 m_trouble a_letters m_failed2_424 m_hasHouse a_r a_fresh a_st a_undone a_kept m_undos m_images a_from a_begin a_motor a_change a_startFrame a_changeFrame a_lostAt a_blackAt a_slips a_leftArc a_died a_arcs m_bestSum m_nearest m_nearestTown a_there a_backAt a_sorted a_parts m_seed1 m_darkNow), (cAI g a_tape 900 d_tape), (cAI g a_letters 8 d_letters2_426)] _ _ _ => hg _ rfl (w_zero hR_445) (k16_u (z := z_450) (by have := iv_452; omega))) (fun fa_453 eq_456 hR_454 hk_455 => ?_)
        have ek_457 : z_5 = fa_453 (11 : Int32).toNatClampNeg := ek_448.trans (hk_455 _ (by decide)).symm
        have hT_458 : TRI fa_453 := by have := iv_452; exact tri_z (z := z_450) eq_456 hT_449 hR_445 (by omega) (by omega) (by omega) (by omega) (by omega)
        refine k_aload_n X dX11_manLine_181 4 rfl ?_
        refine k_get (ci := 11) X inlX11 rfl 16 (by decide) dX11_manLine_182 mw171 1 rfl rfl ?_
        refine k_iload_n X dX11_manLine_185 3 rfl ?_
        refine k_iconst (v := 2) X dX11_manLine_186 (by decide) ?_
        refine k_iadd X dX11_manLine_187 ?_
        refine k_nm (fun z_459 ez_459 => ?_)
        have i_460 : z_459.toInt = z_11.toInt + 2 := in_add ez_459 iv_13 (show IV 2 2 2 from (by decide)) (by decide) (by decide)
        have iv_461 : IV z_459 116 125 := iz1 i_460 iv_13 (by decide) (by decide)
        refine k_iload X dX11_manLine_188 0 rfl ?_
        refine k_iast [(cAI g a_fresh 311 (upd fa_453 (z_459 : Int32).toNatClampNeg r_431)), (cO11_i1r1i10r1i2r5i2r12i3r4i2 h0 m_thrown a_tape m_taped m_size m_at2_422 m_end2_423 m_token2_429 m_whole2_430 m_nameSize2_427 m_fault2_425 m_place2_428 m_trouble a_letters m_failed2_424 m_hasHouse a_r a_fresh a_st a_undone a_kept m_undos m_images a_from a_begin a_motor a_change a_startFrame a_changeFrame a_lostAt a_blackAt a_slips a_leftArc a_died a_arcs m_bestSum m_nearest m_nearestTown a_there a_backAt a_sorted a_parts m_seed1 m_darkNow), (cAI g a_tape 900 d_tape), (cAI g a_letters 8 d_letters2_426)] X dX11_manLine_190 0 rfl (iv_in iv_461 (by decide) (by decide)) rfl ?_
        have i_464 : z_459.toInt = 116 + 3 * z_5.toInt := by omega
        refine (fun hg : ∀ fa_462 : Nat → Int32, fa_462 = upd fa_453 (z_459 : Int32).toNatClampNeg r_431 → RInv fa_462 → K16 fa_453 fa_462 → Wk p l e _ s m args below meth c _ A g _ _ _ [(cAI g a_fresh 311 fa_462), (cO11_i1r1i10r1i2r5i2r12i3r4i2 h0 m_thrown a_tape m_taped m_size m_at2_422 m_end2_423 m_token2_429 m_whole2_430 m_nameSize2_427 m_fault2_425 m_place2_428 m_trouble a_letters m_failed2_424 m_hasHouse a_r a_fresh a_st a_undone a_kept m_undos m_images a_from a_begin a_motor a_change a_startFrame a_changeFrame a_lostAt a_blackAt a_slips a_leftArc a_died a_arcs m_bestSum m_nearest m_nearestTown a_there a_backAt a_sorted a_parts m_seed1 m_darkNow), (cAI g a_tape 900 d_tape), (cAI g a_letters 8 d_letters2_426)] _ _ _ => hg _ rfl (w_rb_116_3 hR_454 i_464 (iv_w iv_7 (by decide) (by decide)) (iv_w iv_441 (by decide) (by decide))) (k16_u (z := z_459) (by have := iv_461; omega))) (fun fa_462 eq_466 hR_463 hk_465 => ?_)
        have ek_467 : z_5 = fa_462 (11 : Int32).toNatClampNeg := ek_457.trans (hk_465 _ (by decide)).symm
        have hT_468 : TRI fa_462 := by have := iv_461; exact tri_z (z := z_459) eq_466 hT_458 hR_454 (by omega) (by omega) (by omega) (by omega) (by omega)
        refine k_aload_n X dX11_manLine_191 4 rfl ?_
        refine k_get (ci := 11) X inlX11 rfl 16 (by decide) dX11_manLine_192 mw171 1 rfl rfl ?_
        refine k_bipush (v := 11) X dX11_manLine_195 (by decide) ?_
        refine k_dup2 X dX11_manLine_197 rfl rfl ?_
        refine k_iald X dX11_manLine_198 0 rfl (by unfold vp_in; decide) ?_
        refine k_to z_5 ek_467.symm ?_
        refine k_iconst (v := 1) X dX11_manLine_199 (by decide) ?_
        refine k_iadd X dX11_manLine_200 ?_
        refine k_nm (fun z_469 ez_469 => ?_)
        have i_470 : z_469.toInt = z_5.toInt + 1 := in_add ez_469 iv_7 (show IV 1 1 1 from (by decide)) (by decide) (by decide)
        have iv_471 : IV z_469 1 4 := iz1 i_470 iv_7 (by decide) (by decide)
        refine k_iast [(cAI g a_fresh 311 (upd fa_462 (11 : Int32).toNatClampNeg z_469)), (cO11_i1r1i10r1i2r5i2r12i3r4i2 h0 m_thrown a_tape m_taped m_size m_at2_422 m_end2_423 m_token2_429 m_whole2_430 m_nameSize2_427 m_fault2_425 m_place2_428 m_trouble a_letters m_failed2_424 m_hasHouse a_r a_fresh a_st a_undone a_kept m_undos m_images a_from a_begin a_motor a_change a_startFrame a_changeFrame a_lostAt a_blackAt a_slips a_leftArc a_died a_arcs m_bestSum m_nearest m_nearestTown a_there a_backAt a_sorted a_parts m_seed1 m_darkNow), (cAI g a_tape 900 d_tape), (cAI g a_letters 8 d_letters2_426)] X dX11_manLine_201 0 rfl (by unfold vp_in; decide) rfl ?_
        refine (fun hg : ∀ fa_472 : Nat → Int32, fa_472 = upd fa_462 (11 : Int32).toNatClampNeg z_469 → RInv fa_472 → Wk p l e _ s m args below meth c _ A g _ _ _ [(cAI g a_fresh 311 fa_472), (cO11_i1r1i10r1i2r5i2r12i3r4i2 h0 m_thrown a_tape m_taped m_size m_at2_422 m_end2_423 m_token2_429 m_whole2_430 m_nameSize2_427 m_fault2_425 m_place2_428 m_trouble a_letters m_failed2_424 m_hasHouse a_r a_fresh a_st a_undone a_kept m_undos m_images a_from a_begin a_motor a_change a_startFrame a_changeFrame a_lostAt a_blackAt a_slips a_leftArc a_died a_arcs m_bestSum m_nearest m_nearestTown a_there a_backAt a_sorted a_parts m_seed1 m_darkNow), (cAI g a_tape 900 d_tape), (cAI g a_letters 8 d_letters2_426)] _ _ _ => hg _ rfl (w_rb_11 hR_463 (iv_w iv_471 (by decide) (by decide)))) (fun fa_472 eq_475 hR_473 => ?_)
        have hT_476 : TRI fa_472 := by rw [eq_475]; exact tri_n (z := 11) hT_468 hR_463 (by decide) (by decide) (by decide) (by decide)
        exact k_vret X hr dX11_manLine_202 (Nat.le_of_ble_eq_true rfl) (Nat.le_of_ble_eq_true rfl) [1, 2, 3, 0] (by decide) rfl rfl ⟨m_at2_422, m_end2_423, m_failed2_424, m_fault2_425, fa_472, d_letters2_426, m_nameSize2_427, m_place2_428, m_token2_429, m_whole2_430, (iv_w iv_432 (by decide) (by decide)), (iv_w iv_443 (by decide) (by decide)), (iv_w iv_434 (by decide) (by decide)), hR_473, (by omega), hT_476, (Or.inl ⟨h_1, ⟨z_5, ez_5, ⟨z_8, ez_8, ⟨z_11, ez_11, ⟨z_14, ez_14, ⟨m_at2_17, m_end2_18, m_failed2_19, m_fault2_20, d_fresh2_21, d_letters2_22, m_nameSize2_23, m_place2_24, m_token2_25, m_whole2_26, hq_34, ⟨r_40, hq_42, (Or.inr ⟨h_44, ⟨m_at2_407, m_end2_408, d_letters2_409, m_nameSize2_410, m_token2_411, m_whole2_412, hq_418, ⟨m_at2_422, m_end2_423, m_failed2_424, m_fault2_425, d_letters2_426, m_nameSize2_427, m_place2_428, m_token2_429, m_whole2_430, r_431, hq_437, (Or.inl ⟨h_442, ⟨fa_444, eq_447, ⟨z_450, ez_450, ⟨fa_453, eq_456, ⟨z_459, ez_459, ⟨fa_462, eq_466, ⟨z_469, ez_469, ⟨fa_472, eq_475, ⟨rfl, rfl, rfl, rfl, rfl, rfl, rfl, rfl, rfl, rfl⟩⟩⟩⟩⟩⟩⟩⟩⟩)⟩⟩⟩)⟩⟩⟩⟩⟩⟩⟩), hk_438, rfl⟩
      · skip
        have iv_477 : IV m_failed2_424 1 1 := iv_neL h_442 iv_433 (show IV 0 0 0 from (by decide)) (by decide)
        exact k_vret X hr dX11_manLine_164 (Nat.le_of_ble_eq_true rfl) (Nat.le_of_ble_eq_true rfl) [1, 2, 3, 0] (by decide) rfl rfl ⟨m_at2_422, m_end2_423, m_failed2_424, m_fault2_425, d_fresh2_21, d_letters2_426, m_nameSize2_427, m_place2_428, m_token2_429, m_whole2_430, (iv_w iv_432 (by decide) (by decide)), (iv_w iv_477 (by decide) (by decide)), (iv_w iv_434 (by decide) (by decide)), hp_31, (by omega), hT_38, (Or.inl ⟨h_1, ⟨z_5, ez_5, ⟨z_8, ez_8, ⟨z_11, ez_11, ⟨z_14, ez_14, ⟨m_at2_17, m_end2_18, m_failed2_19, m_fault2_20, d_fresh2_21, d_letters2_22, m_nameSize2_23, m_place2_24, m_token2_25, m_whole2_26, hq_34, ⟨r_40, hq_42, (Or.inr ⟨h_44, ⟨m_at2_407, m_end2_408, d_letters2_409, m_nameSize2_410, m_token2_411, m_whole2_412, hq_418, ⟨m_at2_422, m_end2_423, m_failed2_424, m_fault2_425, d_letters2_426, m_nameSize2_427, m_place2_428, m_token2_429, m_whole2_430, r_431, hq_437, (Or.inr ⟨h_442, ⟨rfl, rfl, rfl, rfl, rfl, rfl, rfl, rfl, rfl, rfl⟩⟩)⟩⟩⟩)⟩⟩⟩⟩⟩⟩⟩), hk_438, rfl⟩
  · skip
    have iv_478 : IV m_failed 1 1 := iv_neL h_1 hv_m_failed (show IV 0 0 0 from (by decide)) (by decide)
    exact k_vret X hr dX11_manLine_7 (Nat.le_of_ble_eq_true rfl) (Nat.le_of_ble_eq_true rfl) [0, 1, 2, 3] (by decide) rfl rfl ⟨m_at, m_end, m_failed, m_fault, d_fresh, d_letters, m_nameSize, m_place, m_token, m_whole, (iv_w hv_m_end (by decide) (by decide)), (iv_w iv_478 (by decide) (by decide)), (iv_w hv_m_nameSize (by decide) (by decide)), hp_d_fresh, (by omega), hr_0, (Or.inr ⟨h_1, ⟨rfl, rfl, rfl, rfl, rfl, rfl, rfl, rfl, rfl, rfl⟩⟩), hc_1, rfl⟩


set_option maxHeartbeats 4000000 in
set_option maxRecDepth 100000 in
theorem m_scratchLineX (l : Launch) (g : Gx) (h0 : Nat) (m_thrown : Int32) (a_tape : Nat) (m_taped : Int32) (m_size : Int32) (m_at : Int32) (m_end : Int32) (m_token : Int32) (m_whole : Int32) (m_nameSize : Int32) (m_fault : Int32) (m_place : Int32) (m_trouble : Int32) (a_letters : Nat) (m_failed : Int32) (m_hasHouse : Int32) (a_r : Nat) (a_fresh : Nat) (a_st : Nat) (a_undone : Nat) (a_kept : Nat) (m_undos : Int32) (m_images : Int32) (a_from : Nat) (a_begin : Nat) (a_motor : Nat) (a_change : Nat) (a_startFrame : Nat) (a_changeFrame : Nat) (a_lostAt : Nat) (a_blackAt : Nat) (a_slips : Nat) (a_leftArc : Nat) (a_died : Nat) (a_arcs : Nat) (m_bestSum : Int32) (m_nearest : Int32) (m_nearestTown : Int32) (a_there : Nat) (a_backAt : Nat) (a_sorted : Nat) (a_parts : Nat) (m_seed1 : Int32) (m_darkNow : Int32) (d_tape : Nat → Int32) (d_letters : Nat → Int32) (d_fresh : Nat → Int32) (hv_m_size : IV m_size 0 900) (hv_m_end : IV m_end 0 900) (hv_m_nameSize : IV m_nameSize 0 900) (hv_m_failed : IV m_failed 0 1) (hp_d_fresh : RInv d_fresh) (hr_0 : TRI d_fresh) (hc_0 : m_failed = 1 ∨ ((d_fresh 14).toInt ≤ 5)) (hc_1 : m_token = 2 → IV m_nameSize 0 8) : cV l g yX11_scratchLine cX11_scratchLine 2 8 173 0 0 [.ref h0] [(cO11_i1r1i10r1i2r5i2r12i3r4i2 h0 m_thrown a_tape m_taped m_size m_at m_end m_token m_whole m_nameSize m_fault m_place m_trouble a_letters m_failed m_hasHouse a_r a_fresh a_st a_undone a_kept m_undos m_images a_from a_begin a_motor a_change a_startFrame a_changeFrame a_lostAt a_blackAt a_slips a_leftArc a_died a_arcs m_bestSum m_nearest m_nearestTown a_there a_backAt a_sorted a_parts m_seed1 m_darkNow), (cAI g a_tape 900 d_tape), (cAI g a_letters 8 d_letters), (cAI g a_fresh 311 d_fresh)] (fun w => ∃ (m_at2 : Int32) (m_end2 : Int32) (m_failed2 : Int32) (m_fault2 : Int32) (d_fresh2 : Nat → Int32) (d_letters2 : Nat → Int32) (m_nameSize2 : Int32) (m_place2 : Int32) (m_token2 : Int32) (m_whole2 : Int32), IV m_end2 0 900 ∧ IV m_failed2 0 1 ∧ IV m_nameSize2 0 900 ∧ RInv d_fresh2 ∧ (m_end.toInt ≤ m_end2.toInt) ∧ (TRI d_fresh2) ∧ (R_m_scratchLineX m_size m_at m_end m_token m_whole m_nameSize m_fault m_place m_failed d_tape d_letters d_fresh m_at2 m_end2 m_failed2 m_fault2 d_fresh2 d_letters2 m_nameSize2 m_place2 m_token2 m_whole2) ∧ (m_token2 = 2 → IV m_nameSize2 0 8) ∧ w = [(cO11_i1r1i10r1i2r5i2r12i3r4i2 h0 m_thrown a_tape m_taped m_size m_at2 m_end2 m_token2 m_whole2 m_nameSize2 m_fault2 m_place2 m_trouble a_letters m_failed2 m_hasHouse a_r a_fresh a_st a_undone a_kept m_undos m_images a_from a_begin a_motor a_change a_startFrame a_changeFrame a_lostAt a_blackAt a_slips a_leftArc a_died a_arcs m_bestSum m_nearest m_nearestTown a_there a_backAt a_sorted a_parts m_seed1 m_darkNow), (cAI g a_tape 900 d_tape), (cAI g a_letters 8 d_letters2), (cAI g a_fresh 311 d_fresh2)]) := by
  refine cV.of (by decide) (Nat.le_of_ble_eq_true rfl) ?_
  intro p e s m args below meth c A X hr hi
  refine k_lveq [(0, .ref h0)] rfl ?_
  refine k_aload_n X dX11_scratchLine_0 0 rfl ?_
  refine k_get (ci := 11) X inlX11 rfl 13 (by decide) dX11_scratchLine_1 mw469 0 rfl rfl ?_
  refine k_if_eq 8 X dX11_scratchLine_4 (by decide) (fun h_1 => ?_) (fun h_1 => ?_)
  · skip
    have iv_2 : IV m_failed 0 0 := iv_meet hv_m_failed (iv_e h_1 (show IV 0 0 0 from (by decide))) (by decide) (by decide)
    have hc_3 := hc_0.resolve_left (fun q => iv_eqN q iv_2 (show IV 1 1 1 from (by decide)) (by decide))
    have j_4 : (d_fresh 14).toInt ≤ 5 := hc_3
    refine k_sipush (v := 155) X dX11_scratchLine_8 (by decide) ?_
    refine k_iconst (v := 2) X dX11_scratchLine_11 (by decide) ?_
    refine k_aload_n X dX11_scratchLine_12 0 rfl ?_
    refine k_get (ci := 11) X inlX11 rfl 16 (by decide) dX11_scratchLine_13 mw171 0 rfl rfl ?_
    refine k_bipush (v := 14) X dX11_scratchLine_16 (by decide) ?_
    refine k_iald X dX11_scratchLine_18 3 rfl (by unfold vp_in; decide) ?_
    refine k_nm (fun z_5 ez_5 => ?_)
    have i_6 : z_5.toInt = (d_fresh 14).toInt := by rw [ez_5]; rfl
    have iv_7 : IV z_5 0 5 := by have := rb_14 ez_5 hp_d_fresh; rw [IV]; omega
    refine k_imul X dX11_scratchLine_19 ?_
    refine k_nm (fun z_8 ez_8 => ?_)
    have i_9 : z_8.toInt = 2 * z_5.toInt := in_mul ez_8 (by decide) (by decide) iv_7 (by decide) (by decide)
    have iv_10 : IV z_8 0 10 := iz4 i_9 iv_7 (by decide) (by decide) (by decide)
    refine k_iadd X dX11_scratchLine_20 ?_
    refine k_nm (fun z_11 ez_11 => ?_)
    have i_12 : z_11.toInt = 155 + z_8.toInt := in_add ez_11 (show IV 155 155 155 from (by decide)) iv_10 (by decide) (by decide)
    have iv_13 : IV z_11 155 165 := iz2 i_12 iv_10 (by decide) (by decide)
    refine k_istore_n [(1, .int z_11), (0, .ref h0)] X dX11_scratchLine_21 (by decide) rfl ?_
    refine k_aload_n X dX11_scratchLine_22 1 rfl ?_
    refine k_get (ci := 11) X inlX11 rfl 16 (by decide) dX11_scratchLine_23 mw171 0 rfl rfl ?_
    refine k_iload_n X dX11_scratchLine_26 0 rfl ?_
    refine k_aload_n X dX11_scratchLine_27 1 rfl ?_
    refine k_callVI (n := 0) (As := []) (st := [.int z_11, .ref a_fresh]) X [(cO11_i1r1i10r1i2r5i2r12i3r4i2 h0 m_thrown a_tape m_taped m_size m_at m_end m_token m_whole m_nameSize m_fault m_place m_trouble a_letters m_failed m_hasHouse a_r a_fresh a_st a_undone a_kept m_undos m_images a_from a_begin a_motor a_change a_startFrame a_changeFrame a_lostAt a_blackAt a_slips a_leftArc a_died a_arcs m_bestSum m_nearest m_nearestTown a_there a_backAt a_sorted a_parts m_seed1 m_darkNow), (cAI g a_tape 900 d_tape), (cAI g a_letters 8 d_letters), (cAI g a_fresh 311 d_fresh)] [] [0, 1, 2, 3] [] (m_reelPassedX l g h0 m_thrown a_tape m_taped m_size m_at m_end m_token m_whole m_nameSize m_fault m_place m_trouble a_letters m_failed m_hasHouse a_r a_fresh a_st a_undone a_kept m_undos m_images a_from a_begin a_motor a_change a_startFrame a_changeFrame a_lostAt a_blackAt a_slips a_leftArc a_died a_arcs m_bestSum m_nearest m_nearestTown a_there a_backAt a_sorted a_parts m_seed1 m_darkNow d_tape d_letters d_fresh (iv_w hv_m_size (by decide) (by decide)) (iv_w hv_m_end (by decide) (by decide)) (iv_w hv_m_nameSize (by decide) (by decide)) (iv_w iv_2 (by decide) (by decide)) hp_d_fresh hc_1) dX11_scratchLine_28 mw571 mw572 mw573 mw5 mw574 rfl 11 rfl rfl 0 _ rfl yk_yX11_reelPassed_0 rfl (Nat.le_of_ble_eq_true rfl) (Nat.le_of_ble_eq_true rfl) (Nat.le_of_ble_eq_true rfl) (Nat.le_of_ble_eq_true rfl) (Nat.le_of_ble_eq_true rfl) rfl rfl (by decide) rfl (by decide) (by decide) ?_
    intro r_23 w zq
    refine exE9 zq ?_
    clear zq
    intro m_at2_14 m_end2_15 m_failed2_16 m_fault2_17 d_letters2_18 m_nameSize2_19 m_place2_20 m_token2_21 m_whole2_22 iv_24 zq
    refine exA6 zq ?_
    clear zq
    intro iv_25 iv_26 iv_27 hq_28 hq_29 hk_30 zq
    subst zq
    refine k_ws [(cO11_i1r1i10r1i2r5i2r12i3r4i2 h0 m_thrown a_tape m_taped m_size m_at2_14 m_end2_15 m_token2_21 m_whole2_22 m_nameSize2_19 m_fault2_17 m_place2_20 m_trouble a_letters m_failed2_16 m_hasHouse a_r a_fresh a_st a_undone a_kept m_undos m_images a_from a_begin a_motor a_change a_startFrame a_changeFrame a_lostAt a_blackAt a_slips a_leftArc a_died a_arcs m_bestSum m_nearest m_nearestTown a_there a_backAt a_sorted a_parts m_seed1 m_darkNow), (cAI g a_tape 900 d_tape), (cAI g a_letters 8 d_letters2_18), (cAI g a_fresh 311 d_fresh)] rfl ?_
    refine k_iast [(cO11_i1r1i10r1i2r5i2r12i3r4i2 h0 m_thrown a_tape m_taped m_size m_at2_14 m_end2_15 m_token2_21 m_whole2_22 m_nameSize2_19 m_fault2_17 m_place2_20 m_trouble a_letters m_failed2_16 m_hasHouse a_r a_fresh a_st a_undone a_kept m_undos m_images a_from a_begin a_motor a_change a_startFrame a_changeFrame a_lostAt a_blackAt a_slips a_leftArc a_died a_arcs m_bestSum m_nearest m_nearestTown a_there a_backAt a_sorted a_parts m_seed1 m_darkNow), (cAI g a_tape 900 d_tape), (cAI g a_letters 8 d_letters2_18), (cAI g a_fresh 311 (upd d_fresh (z_11 : Int32).toNatClampNeg r_23))] X dX11_scratchLine_31 3 rfl (iv_in iv_13 (by decide) (by decide)) rfl ?_
    have i_33 : z_11.toInt = 155 + 2 * z_5.toInt := by omega
    refine (fun hg : ∀ fa_31 : Nat → Int32, fa_31 = upd d_fresh (z_11 : Int32).toNatClampNeg r_23 → RInv fa_31 → K16 d_fresh fa_31 → Wk p l e _ s m args below meth c _ A g _ _ _ [(cO11_i1r1i10r1i2r5i2r12i3r4i2 h0 m_thrown a_tape m_taped m_size m_at2_14 m_end2_15 m_token2_21 m_whole2_22 m_nameSize2_19 m_fault2_17 m_place2_20 m_trouble a_letters m_failed2_16 m_hasHouse a_r a_fresh a_st a_undone a_kept m_undos m_images a_from a_begin a_motor a_change a_startFrame a_changeFrame a_lostAt a_blackAt a_slips a_leftArc a_died a_arcs m_bestSum m_nearest m_nearestTown a_there a_backAt a_sorted a_parts m_seed1 m_darkNow), (cAI g a_tape 900 d_tape), (cAI g a_letters 8 d_letters2_18), (cAI g a_fresh 311 fa_31)] _ _ _ => hg _ rfl (w_rb_155_2 hp_d_fresh i_33 (iv_w iv_7 (by decide) (by decide)) (iv_w iv_27 (by decide) (by decide))) (k16_u (z := z_11) (by have := iv_13; omega))) (fun fa_31 eq_35 hR_32 hk_34 => ?_)
    have ek_36 : z_5 = fa_31 (14 : Int32).toNatClampNeg := ez_5.trans (hk_34 _ (by decide)).symm
    have hT_37 : TRI fa_31 := by have := iv_13; exact tri_z (z := z_11) eq_35 hr_0 hp_d_fresh (by omega) (by omega) (by omega) (by omega) (by omega)
    refine k_aload_n X dX11_scratchLine_32 1 rfl ?_
    refine k_get (ci := 11) X inlX11 rfl 13 (by decide) dX11_scratchLine_33 mw469 0 rfl rfl ?_
    refine k_if_ne 57 X dX11_scratchLine_36 (by decide) (fun h_38 => ?_) (fun h_38 => ?_)
    · skip
      have iv_39 : IV m_failed2_16 1 1 := iv_neL h_38 iv_25 (show IV 0 0 0 from (by decide)) (by decide)
      refine k_aload_n X dX11_scratchLine_57 1 rfl ?_
      refine k_get (ci := 11) X inlX11 rfl 13 (by decide) dX11_scratchLine_58 mw469 0 rfl rfl ?_
      refine k_if_ne 75 X dX11_scratchLine_61 (by decide) (fun h_40 => ?_) (fun h_40 => (iv_eqN h_40 iv_39 (show IV 0 0 0 from (by decide)) (by decide)).elim)
      exact k_vret X hr dX11_scratchLine_75 (Nat.le_of_ble_eq_true rfl) (Nat.le_of_ble_eq_true rfl) [0, 1, 2, 3] (by decide) rfl rfl ⟨m_at2_14, m_end2_15, m_failed2_16, m_fault2_17, fa_31, d_letters2_18, m_nameSize2_19, m_place2_20, m_token2_21, m_whole2_22, (iv_w iv_24 (by decide) (by decide)), (iv_w iv_39 (by decide) (by decide)), (iv_w iv_26 (by decide) (by decide)), hR_32, (by omega), hT_37, (Or.inl ⟨h_1, ⟨z_5, ez_5, ⟨z_8, ez_8, ⟨z_11, ez_11, ⟨m_at2_14, m_end2_15, m_failed2_16, m_fault2_17, d_letters2_18, m_nameSize2_19, m_place2_20, m_token2_21, m_whole2_22, r_23, hq_29, ⟨fa_31, eq_35, (Or.inl ⟨h_38, ⟨rfl, rfl, rfl, rfl, rfl, rfl, rfl, rfl, rfl, rfl⟩⟩)⟩⟩⟩⟩⟩⟩), hk_30, rfl⟩
    · skip
      have iv_41 : IV m_failed2_16 0 0 := iv_meet iv_25 (iv_e h_38 (show IV 0 0 0 from (by decide))) (by decide) (by decide)
      refine k_aload_n X dX11_scratchLine_39 1 rfl ?_
      refine k_get (ci := 11) X inlX11 rfl 16 (by decide) dX11_scratchLine_40 mw171 0 rfl rfl ?_
      refine k_iload_n X dX11_scratchLine_43 0 rfl ?_
      refine k_iconst (v := 1) X dX11_scratchLine_44 (by decide) ?_
      refine k_iadd X dX11_scratchLine_45 ?_
      refine k_nm (fun z_42 ez_42 => ?_)
      have i_43 : z_42.toInt = z_11.toInt + 1 := in_add ez_42 iv_13 (show IV 1 1 1 from (by decide)) (by decide) (by decide)
      have iv_44 : IV z_42 156 166 := iz1 i_43 iv_13 (by decide) (by decide)
      refine k_aload_n X dX11_scratchLine_46 1 rfl ?_
      refine k_aload_n X dX11_scratchLine_47 1 rfl ?_
      refine k_get (ci := 11) X inlX11 rfl 16 (by decide) dX11_scratchLine_48 mw171 0 rfl rfl ?_
      refine k_iload_n X dX11_scratchLine_51 0 rfl ?_
      refine k_iald X dX11_scratchLine_52 3 rfl (iv_in iv_13 (by decide) (by decide)) ?_
      refine k_nm (fun z_45 ez_45 => ?_)
      have i_46 : z_11.toInt = 155 + 2 * z_5.toInt := by omega
      have iv_47 : IV z_45 0 7 := rb_155_2 ez_45 hR_32 i_46 (iv_w iv_7 (by decide) (by decide))
      refine k_callVI (n := 1) (As := [.int z_45]) (st := [.int z_42, .ref a_fresh]) X [(cO11_i1r1i10r1i2r5i2r12i3r4i2 h0 m_thrown a_tape m_taped m_size m_at2_14 m_end2_15 m_token2_21 m_whole2_22 m_nameSize2_19 m_fault2_17 m_place2_20 m_trouble a_letters m_failed2_16 m_hasHouse a_r a_fresh a_st a_undone a_kept m_undos m_images a_from a_begin a_motor a_change a_startFrame a_changeFrame a_lostAt a_blackAt a_slips a_leftArc a_died a_arcs m_bestSum m_nearest m_nearestTown a_there a_backAt a_sorted a_parts m_seed1 m_darkNow), (cAI g a_tape 900 d_tape), (cAI g a_letters 8 d_letters2_18), (cAI g a_fresh 311 fa_31)] [] [0, 1, 2, 3] [] (m_frameOfX l g h0 z_45 m_thrown a_tape m_taped m_size m_at2_14 m_end2_15 m_token2_21 m_whole2_22 m_nameSize2_19 m_fault2_17 m_place2_20 m_trouble a_letters m_failed2_16 m_hasHouse a_r a_fresh a_st a_undone a_kept m_undos m_images a_from a_begin a_motor a_change a_startFrame a_changeFrame a_lostAt a_blackAt a_slips a_leftArc a_died a_arcs m_bestSum m_nearest m_nearestTown a_there a_backAt a_sorted a_parts m_seed1 m_darkNow d_tape d_letters2_18 fa_31 (iv_w iv_47 (by decide) (by decide)) (iv_w hv_m_size (by decide) (by decide)) (iv_w iv_24 (by decide) (by decide)) (iv_w iv_26 (by decide) (by decide)) (iv_w iv_41 (by decide) (by decide)) hR_32 hk_30) dX11_scratchLine_53 mw579 mw580 mw581 mw5 mw582 rfl 11 rfl rfl 0 _ rfl yk_yX11_frameOf_1 rfl (Nat.le_of_ble_eq_true rfl) (Nat.le_of_ble_eq_true rfl) (Nat.le_of_ble_eq_true rfl) (Nat.le_of_ble_eq_true rfl) (Nat.le_of_ble_eq_true rfl) rfl rfl (by decide) rfl (by decide) (by decide) ?_
      intro r_57 w zq
      refine exE9 zq ?_
      clear zq
      intro m_at2_48 m_end2_49 m_failed2_50 m_fault2_51 d_letters2_52 m_nameSize2_53 m_place2_54 m_token2_55 m_whole2_56 iv_58 zq
      refine exA5 zq ?_
      clear zq
      intro iv_59 iv_60 hq_61 hq_62 hk_63 zq
      subst zq
      refine k_ws [(cO11_i1r1i10r1i2r5i2r12i3r4i2 h0 m_thrown a_tape m_taped m_size m_at2_48 m_end2_49 m_token2_55 m_whole2_56 m_nameSize2_53 m_fault2_51 m_place2_54 m_trouble a_letters m_failed2_50 m_hasHouse a_r a_fresh a_st a_undone a_kept m_undos m_images a_from a_begin a_motor a_change a_startFrame a_changeFrame a_lostAt a_blackAt a_slips a_leftArc a_died a_arcs m_bestSum m_nearest m_nearestTown a_there a_backAt a_sorted a_parts m_seed1 m_darkNow), (cAI g a_tape 900 d_tape), (cAI g a_letters 8 d_letters2_52), (cAI g a_fresh 311 fa_31)] rfl ?_
      refine k_iast [(cO11_i1r1i10r1i2r5i2r12i3r4i2 h0 m_thrown a_tape m_taped m_size m_at2_48 m_end2_49 m_token2_55 m_whole2_56 m_nameSize2_53 m_fault2_51 m_place2_54 m_trouble a_letters m_failed2_50 m_hasHouse a_r a_fresh a_st a_undone a_kept m_undos m_images a_from a_begin a_motor a_change a_startFrame a_changeFrame a_lostAt a_blackAt a_slips a_leftArc a_died a_arcs m_bestSum m_nearest m_nearestTown a_there a_backAt a_sorted a_parts m_seed1 m_darkNow), (cAI g a_tape 900 d_tape), (cAI g a_letters 8 d_letters2_52), (cAI g a_fresh 311 (upd fa_31 (z_42 : Int32).toNatClampNeg r_57))] X dX11_scratchLine_56 3 rfl (iv_in iv_44 (by decide) (by decide)) rfl ?_
      have i_66 : z_42.toInt = 156 + 2 * z_5.toInt := by omega
      refine (fun hg : ∀ fa_64 : Nat → Int32, fa_64 = upd fa_31 (z_42 : Int32).toNatClampNeg r_57 → RInv fa_64 → K16 fa_31 fa_64 → Wk p l e _ s m args below meth c _ A g _ _ _ [(cO11_i1r1i10r1i2r5i2r12i3r4i2 h0 m_thrown a_tape m_taped m_size m_at2_48 m_end2_49 m_token2_55 m_whole2_56 m_nameSize2_53 m_fault2_51 m_place2_54 m_trouble a_letters m_failed2_50 m_hasHouse a_r a_fresh a_st a_undone a_kept m_undos m_images a_from a_begin a_motor a_change a_startFrame a_changeFrame a_lostAt a_blackAt a_slips a_leftArc a_died a_arcs m_bestSum m_nearest m_nearestTown a_there a_backAt a_sorted a_parts m_seed1 m_darkNow), (cAI g a_tape 900 d_tape), (cAI g a_letters 8 d_letters2_52), (cAI g a_fresh 311 fa_64)] _ _ _ => hg _ rfl (w_fr_156_2 hR_32 i_66 (iv_w iv_7 (by decide) (by decide))) (k16_u (z := z_42) (by have := iv_44; omega))) (fun fa_64 eq_68 hR_65 hk_67 => ?_)
      have ek_69 : z_5 = fa_64 (14 : Int32).toNatClampNeg := ek_36.trans (hk_67 _ (by decide)).symm
      have hT_70 : TRI fa_64 := by have := iv_44; exact tri_z (z := z_42) eq_68 hT_37 hR_32 (by omega) (by omega) (by omega) (by omega) (by omega)
      refine k_aload_n X dX11_scratchLine_57 1 rfl ?_
      refine k_get (ci := 11) X inlX11 rfl 13 (by decide) dX11_scratchLine_58 mw469 0 rfl rfl ?_
      refine k_if_ne 75 X dX11_scratchLine_61 (by decide) (fun h_71 => ?_) (fun h_71 => ?_)
      · skip
        have iv_72 : IV m_failed2_50 1 1 := iv_neL h_71 iv_59 (show IV 0 0 0 from (by decide)) (by decide)
        exact k_vret X hr dX11_scratchLine_75 (Nat.le_of_ble_eq_true rfl) (Nat.le_of_ble_eq_true rfl) [0, 1, 2, 3] (by decide) rfl rfl ⟨m_at2_48, m_end2_49, m_failed2_50, m_fault2_51, fa_64, d_letters2_52, m_nameSize2_53, m_place2_54, m_token2_55, m_whole2_56, (iv_w iv_58 (by decide) (by decide)), (iv_w iv_72 (by decide) (by decide)), (iv_w iv_60 (by decide) (by decide)), hR_65, (by omega), hT_70, (Or.inl ⟨h_1, ⟨z_5, ez_5, ⟨z_8, ez_8, ⟨z_11, ez_11, ⟨m_at2_14, m_end2_15, m_failed2_16, m_fault2_17, d_letters2_18, m_nameSize2_19, m_place2_20, m_token2_21, m_whole2_22, r_23, hq_29, ⟨fa_31, eq_35, (Or.inr ⟨h_38, ⟨z_42, ez_42, ⟨z_45, ez_45, ⟨m_at2_48, m_end2_49, m_failed2_50, m_fault2_51, d_letters2_52, m_nameSize2_53, m_place2_54, m_token2_55, m_whole2_56, r_57, hq_62, ⟨fa_64, eq_68, (Or.inl ⟨h_71, ⟨rfl, rfl, rfl, rfl, rfl, rfl, rfl, rfl, rfl, rfl⟩⟩)⟩⟩⟩⟩⟩)⟩⟩⟩⟩⟩⟩), hk_63, rfl⟩
      · skip
        have iv_73 : IV m_failed2_50 0 0 := iv_meet iv_59 (iv_e h_71 (show IV 0 0 0 from (by decide))) (by decide) (by decide)
        refine k_aload_n X dX11_scratchLine_64 1 rfl ?_
        refine k_get (ci := 11) X inlX11 rfl 16 (by decide) dX11_scratchLine_65 mw171 0 rfl rfl ?_
        refine k_bipush (v := 14) X dX11_scratchLine_68 (by decide) ?_
        refine k_dup2 X dX11_scratchLine_70 rfl rfl ?_
        refine k_iald X dX11_scratchLine_71 3 rfl (by unfold vp_in; decide) ?_
        refine k_to z_5 ek_69.symm ?_
        refine k_iconst (v := 1) X dX11_scratchLine_72 (by decide) ?_
        refine k_iadd X dX11_scratchLine_73 ?_
        refine k_nm (fun z_74 ez_74 => ?_)
        have i_75 : z_74.toInt = z_5.toInt + 1 := in_add ez_74 iv_7 (show IV 1 1 1 from (by decide)) (by decide) (by decide)
        have iv_76 : IV z_74 1 6 := iz1 i_75 iv_7 (by decide) (by decide)
        refine k_iast [(cO11_i1r1i10r1i2r5i2r12i3r4i2 h0 m_thrown a_tape m_taped m_size m_at2_48 m_end2_49 m_token2_55 m_whole2_56 m_nameSize2_53 m_fault2_51 m_place2_54 m_trouble a_letters m_failed2_50 m_hasHouse a_r a_fresh a_st a_undone a_kept m_undos m_images a_from a_begin a_motor a_change a_startFrame a_changeFrame a_lostAt a_blackAt a_slips a_leftArc a_died a_arcs m_bestSum m_nearest m_nearestTown a_there a_backAt a_sorted a_parts m_seed1 m_darkNow), (cAI g a_tape 900 d_tape), (cAI g a_letters 8 d_letters2_52), (cAI g a_fresh 311 (upd fa_64 (14 : Int32).toNatClampNeg z_74))] X dX11_scratchLine_74 3 rfl (by unfold vp_in; decide) rfl ?_
        refine (fun hg : ∀ fa_77 : Nat → Int32, fa_77 = upd fa_64 (14 : Int32).toNatClampNeg z_74 → RInv fa_77 → Wk p l e _ s m args below meth c _ A g _ _ _ [(cO11_i1r1i10r1i2r5i2r12i3r4i2 h0 m_thrown a_tape m_taped m_size m_at2_48 m_end2_49 m_token2_55 m_whole2_56 m_nameSize2_53 m_fault2_51 m_place2_54 m_trouble a_letters m_failed2_50 m_hasHouse a_r a_fresh a_st a_undone a_kept m_undos m_images a_from a_begin a_motor a_change a_startFrame a_changeFrame a_lostAt a_blackAt a_slips a_leftArc a_died a_arcs m_bestSum m_nearest m_nearestTown a_there a_backAt a_sorted a_parts m_seed1 m_darkNow), (cAI g a_tape 900 d_tape), (cAI g a_letters 8 d_letters2_52), (cAI g a_fresh 311 fa_77)] _ _ _ => hg _ rfl (w_rb_14 hR_65 (iv_w iv_76 (by decide) (by decide)))) (fun fa_77 eq_80 hR_78 => ?_)
        have hT_81 : TRI fa_77 := by rw [eq_80]; exact tri_n (z := 14) hT_70 hR_65 (by decide) (by decide) (by decide) (by decide)
        exact k_vret X hr dX11_scratchLine_75 (Nat.le_of_ble_eq_true rfl) (Nat.le_of_ble_eq_true rfl) [0, 1, 2, 3] (by decide) rfl rfl ⟨m_at2_48, m_end2_49, m_failed2_50, m_fault2_51, fa_77, d_letters2_52, m_nameSize2_53, m_place2_54, m_token2_55, m_whole2_56, (iv_w iv_58 (by decide) (by decide)), (iv_w iv_73 (by decide) (by decide)), (iv_w iv_60 (by decide) (by decide)), hR_78, (by omega), hT_81, (Or.inl ⟨h_1, ⟨z_5, ez_5, ⟨z_8, ez_8, ⟨z_11, ez_11, ⟨m_at2_14, m_end2_15, m_failed2_16, m_fault2_17, d_letters2_18, m_nameSize2_19, m_place2_20, m_token2_21, m_whole2_22, r_23, hq_29, ⟨fa_31, eq_35, (Or.inr ⟨h_38, ⟨z_42, ez_42, ⟨z_45, ez_45, ⟨m_at2_48, m_end2_49, m_failed2_50, m_fault2_51, d_letters2_52, m_nameSize2_53, m_place2_54, m_token2_55, m_whole2_56, r_57, hq_62, ⟨fa_64, eq_68, (Or.inr ⟨h_71, ⟨z_74, ez_74, ⟨fa_77, eq_80, ⟨rfl, rfl, rfl, rfl, rfl, rfl, rfl, rfl, rfl, rfl⟩⟩⟩⟩)⟩⟩⟩⟩⟩)⟩⟩⟩⟩⟩⟩), hk_63, rfl⟩
  · skip
    have iv_82 : IV m_failed 1 1 := iv_neL h_1 hv_m_failed (show IV 0 0 0 from (by decide)) (by decide)
    exact k_vret X hr dX11_scratchLine_7 (Nat.le_of_ble_eq_true rfl) (Nat.le_of_ble_eq_true rfl) [0, 1, 2, 3] (by decide) rfl rfl ⟨m_at, m_end, m_failed, m_fault, d_fresh, d_letters, m_nameSize, m_place, m_token, m_whole, (iv_w hv_m_end (by decide) (by decide)), (iv_w iv_82 (by decide) (by decide)), (iv_w hv_m_nameSize (by decide) (by decide)), hp_d_fresh, (by omega), hr_0, (Or.inr ⟨h_1, ⟨rfl, rfl, rfl, rfl, rfl, rfl, rfl, rfl, rfl, rfl⟩⟩), hc_1, rfl⟩


set_option maxHeartbeats 4000000 in
set_option maxRecDepth 100000 in
theorem m_showsLineX (l : Launch) (g : Gx) (h0 : Nat) (m_thrown : Int32) (a_tape : Nat) (m_taped : Int32) (m_size : Int32) (m_at : Int32) (m_end : Int32) (m_token : Int32) (m_whole : Int32) (m_nameSize : Int32) (m_fault : Int32) (m_place : Int32) (m_trouble : Int32) (a_letters : Nat) (m_failed : Int32) (m_hasHouse : Int32) (a_r : Nat) (a_fresh : Nat) (a_st : Nat) (a_undone : Nat) (a_kept : Nat) (m_undos : Int32) (m_images : Int32) (a_from : Nat) (a_begin : Nat) (a_motor : Nat) (a_change : Nat) (a_startFrame : Nat) (a_changeFrame : Nat) (a_lostAt : Nat) (a_blackAt : Nat) (a_slips : Nat) (a_leftArc : Nat) (a_died : Nat) (a_arcs : Nat) (m_bestSum : Int32) (m_nearest : Int32) (m_nearestTown : Int32) (a_there : Nat) (a_backAt : Nat) (a_sorted : Nat) (a_parts : Nat) (m_seed1 : Int32) (m_darkNow : Int32) (d_tape : Nat → Int32) (d_letters : Nat → Int32) (d_fresh : Nat → Int32) (hv_m_size : IV m_size 0 900) (hv_m_end : IV m_end 0 900) (hv_m_nameSize : IV m_nameSize 0 900) (hv_m_failed : IV m_failed 0 1) (hp_d_fresh : RInv d_fresh) (hr_0 : TRI d_fresh) (hc_0 : m_token = 2 → IV m_nameSize 0 8) : cV l g yX11_showsLine cX11_showsLine 4 7 152 0 0 [.ref h0] [(cO11_i1r1i10r1i2r5i2r12i3r4i2 h0 m_thrown a_tape m_taped m_size m_at m_end m_token m_whole m_nameSize m_fault m_place m_trouble a_letters m_failed m_hasHouse a_r a_fresh a_st a_undone a_kept m_undos m_images a_from a_begin a_motor a_change a_startFrame a_changeFrame a_lostAt a_blackAt a_slips a_leftArc a_died a_arcs m_bestSum m_nearest m_nearestTown a_there a_backAt a_sorted a_parts m_seed1 m_darkNow), (cAI g a_tape 900 d_tape), (cAI g a_letters 8 d_letters), (cAI g a_fresh 311 d_fresh)] (fun w => ∃ (m_at2 : Int32) (m_end2 : Int32) (m_failed2 : Int32) (m_fault2 : Int32) (d_fresh2 : Nat → Int32) (d_letters2 : Nat → Int32) (m_nameSize2 : Int32) (m_place2 : Int32) (m_token2 : Int32) (m_whole2 : Int32), IV m_end2 0 900 ∧ IV m_failed2 0 1 ∧ IV m_nameSize2 0 900 ∧ RInv d_fresh2 ∧ (m_end.toInt ≤ m_end2.toInt) ∧ (TRI d_fresh2) ∧ (R_m_showsLineX m_size m_at m_end m_token m_whole m_nameSize m_fault m_place m_failed d_tape d_letters d_fresh m_at2 m_end2 m_failed2 m_fault2 d_fresh2 d_letters2 m_nameSize2 m_place2 m_token2 m_whole2) ∧ (m_token2 = 2 → IV m_nameSize2 0 8) ∧ w = [(cO11_i1r1i10r1i2r5i2r12i3r4i2 h0 m_thrown a_tape m_taped m_size m_at2 m_end2 m_token2 m_whole2 m_nameSize2 m_fault2 m_place2 m_trouble a_letters m_failed2 m_hasHouse a_r a_fresh a_st a_undone a_kept m_undos m_images a_from a_begin a_motor a_change a_startFrame a_changeFrame a_lostAt a_blackAt a_slips a_leftArc a_died a_arcs m_bestSum m_nearest m_nearestTown a_there a_backAt a_sorted a_parts m_seed1 m_darkNow), (cAI g a_tape 900 d_tape), (cAI g a_letters 8 d_letters2), (cAI g a_fresh 311 d_fresh2)]) := by
  refine cV.of (by decide) (Nat.le_of_ble_eq_true rfl) ?_
  intro p e s m args below meth c A X hr hi
  refine k_lveq [(0, .ref h0)] rfl ?_
  refine k_aload_n X dX11_showsLine_0 0 rfl ?_
  refine k_get (ci := 11) X inlX11 rfl 13 (by decide) dX11_showsLine_1 mw469 0 rfl rfl ?_
  refine k_if_eq 8 X dX11_showsLine_4 (by decide) (fun h_1 => ?_) (fun h_1 => ?_)
  · skip
    have iv_2 : IV m_failed 0 0 := iv_meet hv_m_failed (iv_e h_1 (show IV 0 0 0 from (by decide))) (by decide) (by decide)
    refine k_iconst (v := 0) X dX11_showsLine_8 (by decide) ?_
    refine k_istore_n [(1, .int 0), (0, .ref h0)] X dX11_showsLine_9 (by decide) rfl ?_
    refine k_iconst (v := 1) X dX11_showsLine_10 (by decide) ?_
    refine k_istore_n [(2, .int 1), (1, .int 0), (0, .ref h0)] X dX11_showsLine_11 (by decide) rfl ?_
    refine (fun hL : ∀ (nn_24 : Nat) (uf_3 : Nat → Int32) (uf_6 : Nat → Int32) (u_7 : Int32) (u_9 : Int32) (u_11 : Int32) (u_12 : Int32) (u_14 : Int32) (u_15 : Int32) (u_17 : Int32) (u_18 : Int32) (u_19 : Int32) (u_21 : Int32), (9 - u_7.toInt).toNat = nn_24 → (RInv uf_3) → (TRI uf_3) → (IV u_7 0 8) → (IV u_9 0 1) → (IV u_12 0 0) → (IV u_15 0 900) → (IV u_19 0 900) → (u_17 = 2 → IV u_19 0 8) → (m_end.toInt ≤ u_15.toInt) → (∀ (m_at2 : Int32) (m_end2 : Int32) (m_failed2 : Int32) (m_fault2 : Int32) (d_fresh2 : Nat → Int32) (d_letters2 : Nat → Int32) (m_nameSize2 : Int32) (m_place2 : Int32) (m_token2 : Int32) (m_whole2 : Int32), (∃ n_0 : Nat, R_m_showsLineX_L0 m_size d_tape m_at2 m_end2 m_failed2 m_fault2 d_fresh2 d_letters2 m_nameSize2 m_place2 m_token2 m_whole2 (fun (u_7 : Int32) (uf_3 : Nat → Int32) (u_14 : Int32) (u_15 : Int32) (u_12 : Int32) (u_21 : Int32) (uf_6 : Nat → Int32) (u_19 : Int32) (u_11 : Int32) (u_17 : Int32) (u_18 : Int32) => ((((2 : Int32) ≤ u_7) ∧ (∃ fa_34 : Nat → Int32, fa_34 = upd uf_3 ((12 : Int32)).toNatClampNeg u_7 ∧ m_at2 = u_14 ∧ m_end2 = u_15 ∧ m_failed2 = u_12 ∧ m_fault2 = u_21 ∧ d_fresh2 = fa_34 ∧ d_letters2 = uf_6 ∧ m_nameSize2 = u_19 ∧ m_place2 = u_11 ∧ m_token2 = u_17 ∧ m_whole2 = u_18)) ∨ ((¬ ((2 : Int32) ≤ u_7)) ∧ ((((u_17 = (59 : Int32)) ∧ (∃ m_failed2_43 : Int32, ∃ m_fault2_44 : Int32, ∃ m_place2_45 : Int32, (R_m_badX 6 u_14 u_21 u_11 u_12 m_failed2_43 m_fault2_44 m_place2_45) ∧ m_at2 = u_14 ∧ m_end2 = u_15 ∧ m_failed2 = m_failed2_43 ∧ m_fault2 = m_fault2_44 ∧ d_fresh2 = uf_3 ∧ d_letters2 = uf_6 ∧ m_nameSize2 = u_19 ∧ m_place2 = m_place2_45 ∧ m_token2 = u_17 ∧ m_whole2 = u_18)) ∨ ((¬ (u_17 = (59 : Int32))) ∧ ((((u_17 ≠ (0 : Int32)) ∧ (∃ m_failed2_51 : Int32, ∃ m_fault2_52 : Int32, ∃ m_place2_53 : Int32, (R_m_badX 1 u_14 u_21 u_11 u_12 m_failed2_51 m_fault2_52 m_place2_53) ∧ m_at2 = u_14 ∧ m_end2 = u_15 ∧ m_failed2 = m_failed2_51 ∧ m_fault2 = m_fault2_52 ∧ d_fresh2 = uf_3 ∧ d_letters2 = uf_6 ∧ m_nameSize2 = u_19 ∧ m_place2 = m_place2_53 ∧ m_token2 = u_17 ∧ m_whole2 = u_18)) ∨ ((u_17 = (0 : Int32)) ∧ (∃ m_failed2_59 : Int32, ∃ m_fault2_60 : Int32, ∃ m_place2_61 : Int32, (R_m_badX 6 u_14 u_21 u_11 u_12 m_failed2_59 m_fault2_60 m_place2_61) ∧ m_at2 = u_14 ∧ m_end2 = u_15 ∧ m_failed2 = m_failed2_59 ∧ m_fault2 = m_fault2_60 ∧ d_fresh2 = uf_3 ∧ d_letters2 = uf_6 ∧ m_nameSize2 = u_19 ∧ m_place2 = m_place2_61 ∧ m_token2 = u_17 ∧ m_whole2 = u_18)))))))))) n_0 uf_3 uf_6 u_7 u_9 u_11 u_12 u_14 u_15 u_17 u_18 u_19 u_21) → R_m_showsLineX m_size m_at m_end m_token m_whole m_nameSize m_fault m_place m_failed d_tape d_letters d_fresh m_at2 m_end2 m_failed2 m_fault2 d_fresh2 d_letters2 m_nameSize2 m_place2 m_token2 m_whole2) → Wk p l e _ s m args below meth c _ A g _ _ _ [(cO11_i1r1i10r1i2r5i2r12i3r4i2 h0 m_thrown a_tape m_taped m_size u_14 u_15 u_17 u_18 u_19 u_21 u_11 m_trouble a_letters u_12 m_hasHouse a_r a_fresh a_st a_undone a_kept m_undos m_images a_from a_begin a_motor a_change a_startFrame a_changeFrame a_lostAt a_blackAt a_slips a_leftArc a_died a_arcs m_bestSum m_nearest m_nearestTown a_there a_backAt a_sorted a_parts m_seed1 m_darkNow), (cAI g a_tape 900 d_tape), (cAI g a_letters 8 uf_6), (cAI g a_fresh 311 uf_3)] [(2, .int u_9), (1, .int u_7), (0, .ref h0)] 12 [] => hL _ d_fresh d_letters 0 1 m_place m_failed m_at m_end m_token m_whole m_nameSize m_fault rfl hp_d_fresh hr_0 (iv_w (show IV 0 0 0 from (by decide)) (by decide) (by decide)) (iv_w (show IV 1 1 1 from (by decide)) (by decide) (by decide)) (iv_w iv_2 (by decide) (by decide)) (iv_w hv_m_end (by decide) (by decide)) (iv_w hv_m_nameSize (by decide) (by decide)) hc_0 (by omega) (fun m_at2 m_end2 m_failed2 m_fault2 d_fresh2 d_letters2 m_nameSize2 m_place2 m_token2 m_whole2 h => (Or.inl ⟨h_1, h⟩))) ?_
    refine fun nn_24 => Nat.strongRecOn nn_24 (fun nn_24 ih_26 => ?_)
    intro uf_3 uf_6 u_7 u_9 u_11 u_12 u_14 u_15 u_17 u_18 u_19 u_21 hm_25 hp_4 hT_5 hv_8 hv_10 hv_13 hv_16 hv_20 hx_22 hx_23 KH_0
    refine k_iload_n X dX11_showsLine_12 0 rfl ?_
    refine k_if_eq 79 X dX11_showsLine_13 (by decide) (fun h_27 => ?_) (fun h_27 => ?_)
    · skip
      have iv_28 : IV u_9 0 0 := iv_meet hv_10 (iv_e h_27 (show IV 0 0 0 from (by decide))) (by decide) (by decide)
      refine k_aload_n X dX11_showsLine_79 2 rfl ?_
      refine k_get (ci := 11) X inlX11 rfl 13 (by decide) dX11_showsLine_80 mw469 0 rfl rfl ?_
      refine k_if_ne 121 X dX11_showsLine_83 (by decide) (fun h_29 => absurd (iv_eq hv_13 (show IV 0 0 0 from (by decide))) h_29) (fun h_29 => ?_)
      refine k_iload_n X dX11_showsLine_86 1 rfl ?_
      refine k_iconst (v := 2) X dX11_showsLine_87 (by decide) ?_
      refine k_ic_ge 121 X dX11_showsLine_88 (by decide) (fun h_30 => ?_) (fun h_30 => ?_)
      · skip
        have j_31 : 2 ≤ u_7.toInt := iv_le h_30
        have iv_32 : IV u_7 2 8 := iv_leR (iv_le h_30) (show IV 2 2 2 from (by decide)) hv_8 (by decide)
        refine k_aload_n X dX11_showsLine_121 2 rfl ?_
        refine k_get (ci := 11) X inlX11 rfl 13 (by decide) dX11_showsLine_122 mw469 0 rfl rfl ?_
        refine k_if_ne 136 X dX11_showsLine_125 (by decide) (fun h_33 => absurd (iv_eq hv_13 (show IV 0 0 0 from (by decide))) h_33) (fun h_33 => ?_)
        refine k_aload_n X dX11_showsLine_128 2 rfl ?_
        refine k_get (ci := 11) X inlX11 rfl 16 (by decide) dX11_showsLine_129 mw171 0 rfl rfl ?_
        refine k_bipush (v := 12) X dX11_showsLine_132 (by decide) ?_
        refine k_iload_n X dX11_showsLine_134 1 rfl ?_
        refine k_iast [(cO11_i1r1i10r1i2r5i2r12i3r4i2 h0 m_thrown a_tape m_taped m_size u_14 u_15 u_17 u_18 u_19 u_21 u_11 m_trouble a_letters u_12 m_hasHouse a_r a_fresh a_st a_undone a_kept m_undos m_images a_from a_begin a_motor a_change a_startFrame a_changeFrame a_lostAt a_blackAt a_slips a_leftArc a_died a_arcs m_bestSum m_nearest m_nearestTown a_there a_backAt a_sorted a_parts m_seed1 m_darkNow), (cAI g a_tape 900 d_tape), (cAI g a_letters 8 uf_6), (cAI g a_fresh 311 (upd uf_3 (12 : Int32).toNatClampNeg u_7))] X dX11_showsLine_135 3 rfl (by unfold vp_in; decide) rfl ?_
        refine (fun hg : ∀ fa_34 : Nat → Int32, fa_34 = upd uf_3 (12 : Int32).toNatClampNeg u_7 → RInv fa_34 → Wk p l e _ s m args below meth c _ A g _ _ _ [(cO11_i1r1i10r1i2r5i2r12i3r4i2 h0 m_thrown a_tape m_taped m_size u_14 u_15 u_17 u_18 u_19 u_21 u_11 m_trouble a_letters u_12 m_hasHouse a_r a_fresh a_st a_undone a_kept m_undos m_images a_from a_begin a_motor a_change a_startFrame a_changeFrame a_lostAt a_blackAt a_slips a_leftArc a_died a_arcs m_bestSum m_nearest m_nearestTown a_there a_backAt a_sorted a_parts m_seed1 m_darkNow), (cAI g a_tape 900 d_tape), (cAI g a_letters 8 uf_6), (cAI g a_fresh 311 fa_34)] _ _ _ => hg _ rfl (w_rb_12 hp_4 (iv_w iv_32 (by decide) (by decide)))) (fun fa_34 eq_37 hR_35 => ?_)
        have hT_38 : TRI fa_34 := by rw [eq_37]; exact tri_n (z := 12) hT_5 hp_4 (by decide) (by decide) (by decide) (by decide)
        exact k_vret X hr dX11_showsLine_136 (Nat.le_of_ble_eq_true rfl) (Nat.le_of_ble_eq_true rfl) [0, 1, 2, 3] (by decide) rfl rfl ⟨u_14, u_15, u_12, u_21, fa_34, uf_6, u_19, u_11, u_17, u_18, (iv_w hv_16 (by decide) (by decide)), (iv_w hv_13 (by decide) (by decide)), (iv_w hv_20 (by decide) (by decide)), hR_35, (by omega), hT_38, (KH_0 _ _ _ _ _ _ _ _ _ _ ⟨0 + 1, (Or.inl ⟨h_27, (Or.inl ⟨h_30, ⟨fa_34, eq_37, ⟨rfl, rfl, rfl, rfl, rfl, rfl, rfl, rfl, rfl, rfl⟩⟩⟩)⟩)⟩), hx_22, rfl⟩
      · skip
        have j_39 : u_7.toInt < 2 := iv_nle h_30
        have iv_40 : IV u_7 0 1 := iv_ltL (iv_nle h_30) hv_8 (show IV 2 2 2 from (by decide)) (by decide)
        refine k_aload_n X dX11_showsLine_91 2 rfl ?_
        refine k_aload_n X dX11_showsLine_92 2 rfl ?_
        refine k_get (ci := 11) X inlX11 rfl 6 (by decide) dX11_showsLine_93 mw472 0 rfl rfl ?_
        refine k_bipush (v := 59) X dX11_showsLine_96 (by decide) ?_
        refine k_ic_eq 108 X dX11_showsLine_98 (by decide) (fun h_41 => ?_) (fun h_41 => ?_)
        · skip
          have iv_42 : IV u_17 59 59 := iv_meet (iv_any u_17) (iv_e h_41 (show IV 59 59 59 from (by decide))) (by decide) (by decide)
          refine k_bipush (v := 6) X dX11_showsLine_108 (by decide) ?_
          refine k_goto 114 X dX11_showsLine_110 (by decide) ?_
          refine k_aload_n X dX11_showsLine_114 2 rfl ?_
          refine k_get (ci := 11) X inlX11 rfl 4 (by decide) dX11_showsLine_115 mw473 0 rfl rfl ?_
          refine k_callVV (n := 2) (As := [.int 6, .int u_14]) (st := []) X [(cO11_i1r1i10r1i2r5i2r12i3r4i2 h0 m_thrown a_tape m_taped m_size u_14 u_15 u_17 u_18 u_19 u_21 u_11 m_trouble a_letters u_12 m_hasHouse a_r a_fresh a_st a_undone a_kept m_undos m_images a_from a_begin a_motor a_change a_startFrame a_changeFrame a_lostAt a_blackAt a_slips a_leftArc a_died a_arcs m_bestSum m_nearest m_nearestTown a_there a_backAt a_sorted a_parts m_seed1 m_darkNow)] [(cAI g a_tape 900 d_tape), (cAI g a_letters 8 uf_6), (cAI g a_fresh 311 uf_3)] [0] [1, 2, 3] (m_badX l g h0 6 u_14 m_thrown a_tape m_taped m_size u_14 u_15 u_17 u_18 u_19 u_21 u_11 m_trouble a_letters u_12 m_hasHouse a_r a_fresh a_st a_undone a_kept m_undos m_images a_from a_begin a_motor a_change a_startFrame a_changeFrame a_lostAt a_blackAt a_slips a_leftArc a_died a_arcs m_bestSum m_nearest m_nearestTown a_there a_backAt a_sorted a_parts m_seed1 m_darkNow (iv_w hv_13 (by decide) (by decide))) dX11_showsLine_118 mw519 mw520 mw521 mw5 mw522 rfl 11 rfl rfl 0 _ rfl yk_yX11_bad_2 rfl (Nat.le_of_ble_eq_true rfl) (Nat.le_of_ble_eq_true rfl) (Nat.le_of_ble_eq_true rfl) (Nat.le_of_ble_eq_true rfl) (Nat.le_of_ble_eq_true rfl) rfl rfl (by decide) rfl (by decide) (by decide) ?_
          rintro w ⟨m_failed2_43, m_fault2_44, m_place2_45, iv_47, hq_48, rfl⟩
          refine k_ws [(cAI g a_tape 900 d_tape), (cAI g a_letters 8 uf_6), (cAI g a_fresh 311 uf_3), (cO11_i1r1i10r1i2r5i2r12i3r4i2 h0 m_thrown a_tape m_taped m_size u_14 u_15 u_17 u_18 u_19 m_fault2_44 m_place2_45 m_trouble a_letters m_failed2_43 m_hasHouse a_r a_fresh a_st a_undone a_kept m_undos m_images a_from a_begin a_motor a_change a_startFrame a_changeFrame a_lostAt a_blackAt a_slips a_leftArc a_died a_arcs m_bestSum m_nearest m_nearestTown a_there a_backAt a_sorted a_parts m_seed1 m_darkNow)] rfl ?_
          refine k_aload_n X dX11_showsLine_121 2 rfl ?_
          refine k_get (ci := 11) X inlX11 rfl 13 (by decide) dX11_showsLine_122 mw469 3 rfl rfl ?_
          refine k_if_ne 136 X dX11_showsLine_125 (by decide) (fun h_49 => ?_) (fun h_49 => (iv_eqN h_49 iv_47 (show IV 0 0 0 from (by decide)) (by decide)).elim)
          exact k_vret X hr dX11_showsLine_136 (Nat.le_of_ble_eq_true rfl) (Nat.le_of_ble_eq_true rfl) [3, 0, 1, 2] (by decide) rfl rfl ⟨u_14, u_15, m_failed2_43, m_fault2_44, uf_3, uf_6, u_19, m_place2_45, u_17, u_18, (iv_w hv_16 (by decide) (by decide)), (iv_w iv_47 (by decide) (by decide)), (iv_w hv_20 (by decide) (by decide)), hp_4, (by omega), hT_5, (KH_0 _ _ _ _ _ _ _ _ _ _ ⟨0 + 1, (Or.inl ⟨h_27, (Or.inr ⟨h_30, (Or.inl ⟨h_41, ⟨m_failed2_43, m_fault2_44, m_place2_45, hq_48, ⟨rfl, rfl, rfl, rfl, rfl, rfl, rfl, rfl, rfl, rfl⟩⟩⟩)⟩)⟩)⟩), (fun q => (iv_eqN q iv_42 (show IV 2 2 2 from (by decide)) (by decide)).elim), rfl⟩
        · skip
          refine k_aload_n X dX11_showsLine_101 2 rfl ?_
          refine k_get (ci := 11) X inlX11 rfl 6 (by decide) dX11_showsLine_102 mw472 0 rfl rfl ?_
          refine k_if_ne 113 X dX11_showsLine_105 (by decide) (fun h_50 => ?_) (fun h_50 => ?_)
          · skip
            refine k_iconst (v := 1) X dX11_showsLine_113 (by decide) ?_
            refine k_aload_n X dX11_showsLine_114 2 rfl ?_
            refine k_get (ci := 11) X inlX11 rfl 4 (by decide) dX11_showsLine_115 mw473 0 rfl rfl ?_
            refine k_callVV (n := 2) (As := [.int 1, .int u_14]) (st := []) X [(cO11_i1r1i10r1i2r5i2r12i3r4i2 h0 m_thrown a_tape m_taped m_size u_14 u_15 u_17 u_18 u_19 u_21 u_11 m_trouble a_letters u_12 m_hasHouse a_r a_fresh a_st a_undone a_kept m_undos m_images a_from a_begin a_motor a_change a_startFrame a_changeFrame a_lostAt a_blackAt a_slips a_leftArc a_died a_arcs m_bestSum m_nearest m_nearestTown a_there a_backAt a_sorted a_parts m_seed1 m_darkNow)] [(cAI g a_tape 900 d_tape), (cAI g a_letters 8 uf_6), (cAI g a_fresh 311 uf_3)] [0] [1, 2, 3] (m_badX l g h0 1 u_14 m_thrown a_tape m_taped m_size u_14 u_15 u_17 u_18 u_19 u_21 u_11 m_trouble a_letters u_12 m_hasHouse a_r a_fresh a_st a_undone a_kept m_undos m_images a_from a_begin a_motor a_change a_startFrame a_changeFrame a_lostAt a_blackAt a_slips a_leftArc a_died a_arcs m_bestSum m_nearest m_nearestTown a_there a_backAt a_sorted a_parts m_seed1 m_darkNow (iv_w hv_13 (by decide) (by decide))) dX11_showsLine_118 mw519 mw520 mw521 mw5 mw522 rfl 11 rfl rfl 0 _ rfl yk_yX11_bad_2 rfl (Nat.le_of_ble_eq_true rfl) (Nat.le_of_ble_eq_true rfl) (Nat.le_of_ble_eq_true rfl) (Nat.le_of_ble_eq_true rfl) (Nat.le_of_ble_eq_true rfl) rfl rfl (by decide) rfl (by decide) (by decide) ?_
            rintro w ⟨m_failed2_51, m_fault2_52, m_place2_53, iv_55, hq_56, rfl⟩
            refine k_ws [(cAI g a_tape 900 d_tape), (cAI g a_letters 8 uf_6), (cAI g a_fresh 311 uf_3), (cO11_i1r1i10r1i2r5i2r12i3r4i2 h0 m_thrown a_tape m_taped m_size u_14 u_15 u_17 u_18 u_19 m_fault2_52 m_place2_53 m_trouble a_letters m_failed2_51 m_hasHouse a_r a_fresh a_st a_undone a_kept m_undos m_images a_from a_begin a_motor a_change a_startFrame a_changeFrame a_lostAt a_blackAt a_slips a_leftArc a_died a_arcs m_bestSum m_nearest m_nearestTown a_there a_backAt a_sorted a_parts m_seed1 m_darkNow)] rfl ?_
            refine k_aload_n X dX11_showsLine_121 2 rfl ?_
            refine k_get (ci := 11) X inlX11 rfl 13 (by decide) dX11_showsLine_122 mw469 3 rfl rfl ?_
            refine k_if_ne 136 X dX11_showsLine_125 (by decide) (fun h_57 => ?_) (fun h_57 => (iv_eqN h_57 iv_55 (show IV 0 0 0 from (by decide)) (by decide)).elim)
            exact k_vret X hr dX11_showsLine_136 (Nat.le_of_ble_eq_true rfl) (Nat.le_of_ble_eq_true rfl) [3, 0, 1, 2] (by decide) rfl rfl ⟨u_14, u_15, m_failed2_51, m_fault2_52, uf_3, uf_6, u_19, m_place2_53, u_17, u_18, (iv_w hv_16 (by decide) (by decide)), (iv_w iv_55 (by decide) (by decide)), (iv_w hv_20 (by decide) (by decide)), hp_4, (by omega), hT_5, (KH_0 _ _ _ _ _ _ _ _ _ _ ⟨0 + 1, (Or.inl ⟨h_27, (Or.inr ⟨h_30, (Or.inr ⟨h_41, (Or.inl ⟨h_50, ⟨m_failed2_51, m_fault2_52, m_place2_53, hq_56, ⟨rfl, rfl, rfl, rfl, rfl, rfl, rfl, rfl, rfl, rfl⟩⟩⟩)⟩)⟩)⟩)⟩), hx_22, rfl⟩
          · skip
            have iv_58 : IV u_17 0 0 := iv_meet (iv_any u_17) (iv_e h_50 (show IV 0 0 0 from (by decide))) (by decide) (by decide)
            refine k_bipush (v := 6) X dX11_showsLine_108 (by decide) ?_
            refine k_goto 114 X dX11_showsLine_110 (by decide) ?_
            refine k_aload_n X dX11_showsLine_114 2 rfl ?_
            refine k_get (ci := 11) X inlX11 rfl 4 (by decide) dX11_showsLine_115 mw473 0 rfl rfl ?_
            refine k_callVV (n := 2) (As := [.int 6, .int u_14]) (st := []) X [(cO11_i1r1i10r1i2r5i2r12i3r4i2 h0 m_thrown a_tape m_taped m_size u_14 u_15 u_17 u_18 u_19 u_21 u_11 m_trouble a_letters u_12 m_hasHouse a_r a_fresh a_st a_undone a_kept m_undos m_images a_from a_begin a_motor a_change a_startFrame a_changeFrame a_lostAt a_blackAt a_slips a_leftArc a_died a_arcs m_bestSum m_nearest m_nearestTown a_there a_backAt a_sorted a_parts m_seed1 m_darkNow)] [(cAI g a_tape 900 d_tape), (cAI g a_letters 8 uf_6), (cAI g a_fresh 311 uf_3)] [0] [1, 2, 3] (m_badX l g h0 6 u_14 m_thrown a_tape m_taped m_size u_14 u_15 u_17 u_18 u_19 u_21 u_11 m_trouble a_letters u_12 m_hasHouse a_r a_fresh a_st a_undone a_kept m_undos m_images a_from a_begin a_motor a_change a_startFrame a_changeFrame a_lostAt a_blackAt a_slips a_leftArc a_died a_arcs m_bestSum m_nearest m_nearestTown a_there a_backAt a_sorted a_parts m_seed1 m_darkNow (iv_w hv_13 (by decide) (by decide))) dX11_showsLine_118 mw519 mw520 mw521 mw5 mw522 rfl 11 rfl rfl 0 _ rfl yk_yX11_bad_2 rfl (Nat.le_of_ble_eq_true rfl) (Nat.le_of_ble_eq_true rfl) (Nat.le_of_ble_eq_true rfl) (Nat.le_of_ble_eq_true rfl) (Nat.le_of_ble_eq_true rfl) rfl rfl (by decide) rfl (by decide) (by decide) ?_
            rintro w ⟨m_failed2_59, m_fault2_60, m_place2_61, iv_63, hq_64, rfl⟩
            refine k_ws [(cAI g a_tape 900 d_tape), (cAI g a_letters 8 uf_6), (cAI g a_fresh 311 uf_3), (cO11_i1r1i10r1i2r5i2r12i3r4i2 h0 m_thrown a_tape m_taped m_size u_14 u_15 u_17 u_18 u_19 m_fault2_60 m_place2_61 m_trouble a_letters m_failed2_59 m_hasHouse a_r a_fresh a_st a_undone a_kept m_undos m_images a_from a_begin a_motor a_change a_startFrame a_changeFrame a_lostAt a_blackAt a_slips a_leftArc a_died a_arcs m_bestSum m_nearest m_nearestTown a_there a_backAt a_sorted a_parts m_seed1 m_darkNow)] rfl ?_
            refine k_aload_n X dX11_showsLine_121 2 rfl ?_
            refine k_get (ci := 11) X inlX11 rfl 13 (by decide) dX11_showsLine_122 mw469 3 rfl rfl ?_
            refine k_if_ne 136 X dX11_showsLine_125 (by decide) (fun h_65 => ?_) (fun h_65 => (iv_eqN h_65 iv_63 (show IV 0 0 0 from (by decide)) (by decide)).elim)
            exact k_vret X hr dX11_showsLine_136 (Nat.le_of_ble_eq_true rfl) (Nat.le_of_ble_eq_true rfl) [3, 0, 1, 2] (by decide) rfl rfl ⟨u_14, u_15, m_failed2_59, m_fault2_60, uf_3, uf_6, u_19, m_place2_61, u_17, u_18, (iv_w hv_16 (by decide) (by decide)), (iv_w iv_63 (by decide) (by decide)), (iv_w hv_20 (by decide) (by decide)), hp_4, (by omega), hT_5, (KH_0 _ _ _ _ _ _ _ _ _ _ ⟨0 + 1, (Or.inl ⟨h_27, (Or.inr ⟨h_30, (Or.inr ⟨h_41, (Or.inr ⟨h_50, ⟨m_failed2_59, m_fault2_60, m_place2_61, hq_64, ⟨rfl, rfl, rfl, rfl, rfl, rfl, rfl, rfl, rfl, rfl⟩⟩⟩)⟩)⟩)⟩)⟩), (fun q => (iv_eqN q iv_58 (show IV 2 2 2 from (by decide)) (by decide)).elim), rfl⟩
    · skip
      have iv_66 : IV u_9 1 1 := iv_neL h_27 hv_10 (show IV 0 0 0 from (by decide)) (by decide)
      refine k_aload_n X dX11_showsLine_16 2 rfl ?_
      refine k_iconst (v := 0) X dX11_showsLine_17 (by decide) ?_
      refine k_bipush (v := 7) X dX11_showsLine_18 (by decide) ?_
      refine k_callVI (n := 2) (As := [.int 0, .int 7]) (st := []) X [(cO11_i1r1i10r1i2r5i2r12i3r4i2 h0 m_thrown a_tape m_taped m_size u_14 u_15 u_17 u_18 u_19 u_21 u_11 m_trouble a_letters u_12 m_hasHouse a_r a_fresh a_st a_undone a_kept m_undos m_images a_from a_begin a_motor a_change a_startFrame a_changeFrame a_lostAt a_blackAt a_slips a_leftArc a_died a_arcs m_bestSum m_nearest m_nearestTown a_there a_backAt a_sorted a_parts m_seed1 m_darkNow), (cAI g a_letters 8 uf_6), (cAI g a_fresh 311 uf_3)] [(cAI g a_tape 900 d_tape)] [0, 2, 3] [1] (m_namedRX l g h0 m_thrown a_tape m_taped m_size u_14 u_15 u_17 u_18 u_19 u_21 u_11 m_trouble a_letters u_12 m_hasHouse a_r a_fresh a_st a_undone a_kept m_undos m_images a_from a_begin a_motor a_change a_startFrame a_changeFrame a_lostAt a_blackAt a_slips a_leftArc a_died a_arcs m_bestSum m_nearest m_nearestTown a_there a_backAt a_sorted a_parts m_seed1 m_darkNow uf_6 uf_3 (iv_w hv_20 (by decide) (by decide)) (iv_w hv_13 (by decide) (by decide)) hp_4 hx_22) dX11_showsLine_20 mw575 mw576 mw577 mw5 mw578 rfl 11 rfl rfl 0 _ rfl yk_yX11_named_2 rfl (Nat.le_of_ble_eq_true rfl) (Nat.le_of_ble_eq_true rfl) (Nat.le_of_ble_eq_true rfl) (Nat.le_of_ble_eq_true rfl) (Nat.le_of_ble_eq_true rfl) rfl rfl (by decide) rfl (by decide) (by decide) ?_
      rintro r_70 w ⟨m_failed2_67, m_fault2_68, m_place2_69, iv_71, iv_72, hq_73, rfl⟩
      refine k_ws [(cAI g a_tape 900 d_tape), (cO11_i1r1i10r1i2r5i2r12i3r4i2 h0 m_thrown a_tape m_taped m_size u_14 u_15 u_17 u_18 u_19 m_fault2_68 m_place2_69 m_trouble a_letters m_failed2_67 m_hasHouse a_r a_fresh a_st a_undone a_kept m_undos m_images a_from a_begin a_motor a_change a_startFrame a_changeFrame a_lostAt a_blackAt a_slips a_leftArc a_died a_arcs m_bestSum m_nearest m_nearestTown a_there a_backAt a_sorted a_parts m_seed1 m_darkNow), (cAI g a_letters 8 uf_6), (cAI g a_fresh 311 uf_3)] rfl ?_
      refine k_istore_n [(3, .int r_70), (2, .int u_9), (1, .int u_7), (0, .ref h0)] X dX11_showsLine_23 (by decide) rfl ?_
      refine k_aload_n X dX11_showsLine_24 3 rfl ?_
      refine k_get (ci := 11) X inlX11 rfl 13 (by decide) dX11_showsLine_25 mw469 1 rfl rfl ?_
      refine k_if_ne 46 X dX11_showsLine_28 (by decide) (fun h_74 => ?_) (fun h_74 => ?_)
      · skip
        have iv_75 : IV m_failed2_67 1 1 := iv_neL h_74 iv_71 (show IV 0 0 0 from (by decide)) (by decide)
        refine k_aload_n X dX11_showsLine_46 3 rfl ?_
        refine k_get (ci := 11) X inlX11 rfl 13 (by decide) dX11_showsLine_47 mw469 1 rfl rfl ?_
        refine k_if_eq 54 X dX11_showsLine_50 (by decide) (fun h_76 => (iv_eqN h_76 iv_75 (show IV 0 0 0 from (by decide)) (by decide)).elim) (fun h_76 => ?_)
        exact k_vret X hr dX11_showsLine_53 (Nat.le_of_ble_eq_true rfl) (Nat.le_of_ble_eq_true rfl) [1, 0, 2, 3] (by decide) rfl rfl ⟨u_14, u_15, m_failed2_67, m_fault2_68, uf_3, uf_6, u_19, m_place2_69, u_17, u_18, (iv_w hv_16 (by decide) (by decide)), (iv_w iv_75 (by decide) (by decide)), (iv_w hv_20 (by decide) (by decide)), hp_4, (by omega), hT_5, (KH_0 _ _ _ _ _ _ _ _ _ _ ⟨0 + 1, (Or.inr ⟨h_27, ⟨m_failed2_67, m_fault2_68, m_place2_69, r_70, hq_73, (Or.inl ⟨h_74, ⟨rfl, rfl, rfl, rfl, rfl, rfl, rfl, rfl, rfl, rfl⟩⟩)⟩⟩)⟩), hx_22, rfl⟩
      · skip
        have iv_77 : IV m_failed2_67 0 0 := iv_meet iv_71 (iv_e h_74 (show IV 0 0 0 from (by decide))) (by decide) (by decide)
        refine k_iload_n X dX11_showsLine_31 2 rfl ?_
        refine k_bipush (v := 8) X dX11_showsLine_32 (by decide) ?_
        refine k_ic_ne 46 X dX11_showsLine_34 (by decide) (fun h_78 => ?_) (fun h_78 => ?_)
        · skip
          have iv_79 : IV u_7 0 7 := iv_neH h_78 hv_8 (show IV 8 8 8 from (by decide)) (by decide)
          refine k_aload_n X dX11_showsLine_46 3 rfl ?_
          refine k_get (ci := 11) X inlX11 rfl 13 (by decide) dX11_showsLine_47 mw469 1 rfl rfl ?_
          refine k_if_eq 54 X dX11_showsLine_50 (by decide) (fun h_80 => ?_) (fun h_80 => absurd (iv_eq iv_77 (show IV 0 0 0 from (by decide))) h_80)
          refine k_aload_n X dX11_showsLine_54 3 rfl ?_
          refine k_callVV (n := 0) (As := []) (st := []) X [(cO11_i1r1i10r1i2r5i2r12i3r4i2 h0 m_thrown a_tape m_taped m_size u_14 u_15 u_17 u_18 u_19 m_fault2_68 m_place2_69 m_trouble a_letters m_failed2_67 m_hasHouse a_r a_fresh a_st a_undone a_kept m_undos m_images a_from a_begin a_motor a_change a_startFrame a_changeFrame a_lostAt a_blackAt a_slips a_leftArc a_died a_arcs m_bestSum m_nearest m_nearestTown a_there a_backAt a_sorted a_parts m_seed1 m_darkNow), (cAI g a_tape 900 d_tape), (cAI g a_letters 8 uf_6)] [(cAI g a_fresh 311 uf_3)] [1, 0, 2] [3] (m_nextX l g h0 m_thrown a_tape m_taped m_size u_14 u_15 u_17 u_18 u_19 m_fault2_68 m_place2_69 m_trouble a_letters m_failed2_67 m_hasHouse a_r a_fresh a_st a_undone a_kept m_undos m_images a_from a_begin a_motor a_change a_startFrame a_changeFrame a_lostAt a_blackAt a_slips a_leftArc a_died a_arcs m_bestSum m_nearest m_nearestTown a_there a_backAt a_sorted a_parts m_seed1 m_darkNow d_tape uf_6 (iv_w hv_m_size (by decide) (by decide)) (iv_w hv_16 (by decide) (by decide)) (iv_w hv_20 (by decide) (by decide))) dX11_showsLine_55 mw489 mw490 mw491 mw5 mw492 rfl 11 rfl rfl 0 _ rfl yk_yX11_next_0 rfl (Nat.le_of_ble_eq_true rfl) (Nat.le_of_ble_eq_true rfl) (Nat.le_of_ble_eq_true rfl) (Nat.le_of_ble_eq_true rfl) (Nat.le_of_ble_eq_true rfl) rfl rfl (by decide) rfl (by decide) (by decide) ?_
          intro w zq
          refine exE6 zq ?_
          clear zq
          intro m_at2_81 m_end2_82 d_letters2_83 m_nameSize2_84 m_token2_85 m_whole2_86 iv_88 zq
          refine exA5 zq ?_
          clear zq
          intro iv_89 hq_90 hq_91 hq_92 hk_93 zq
          subst zq
          refine k_ws [(cAI g a_fresh 311 uf_3), (cO11_i1r1i10r1i2r5i2r12i3r4i2 h0 m_thrown a_tape m_taped m_size m_at2_81 m_end2_82 m_token2_85 m_whole2_86 m_nameSize2_84 m_fault2_68 m_place2_69 m_trouble a_letters m_failed2_67 m_hasHouse a_r a_fresh a_st a_undone a_kept m_undos m_images a_from a_begin a_motor a_change a_startFrame a_changeFrame a_lostAt a_blackAt a_slips a_leftArc a_died a_arcs m_bestSum m_nearest m_nearestTown a_there a_backAt a_sorted a_parts m_seed1 m_darkNow), (cAI g a_tape 900 d_tape), (cAI g a_letters 8 d_letters2_83)] rfl ?_
          refine k_aload_n X dX11_showsLine_58 3 rfl ?_
          refine k_get (ci := 11) X inlX11 rfl 16 (by decide) dX11_showsLine_59 mw171 1 rfl rfl ?_
          refine k_bipush (v := 126) X dX11_showsLine_62 (by decide) ?_
          refine k_iload_n X dX11_showsLine_64 2 rfl ?_
          refine k_iadd X dX11_showsLine_65 ?_
          refine k_nm (fun z_94 ez_94 => ?_)
          have i_95 : z_94.toInt = 126 + u_7.toInt := in_add ez_94 (show IV 126 126 126 from (by decide)) iv_79 (by decide) (by decide)
          have iv_96 : IV z_94 126 133 := iz2 i_95 iv_79 (by decide) (by decide)
          refine k_iload_n X dX11_showsLine_66 0 rfl ?_
          refine k_iast [(cAI g a_fresh 311 (upd uf_3 (z_94 : Int32).toNatClampNeg r_70)), (cO11_i1r1i10r1i2r5i2r12i3r4i2 h0 m_thrown a_tape m_taped m_size m_at2_81 m_end2_82 m_token2_85 m_whole2_86 m_nameSize2_84 m_fault2_68 m_place2_69 m_trouble a_letters m_failed2_67 m_hasHouse a_r a_fresh a_st a_undone a_kept m_undos m_images a_from a_begin a_motor a_change a_startFrame a_changeFrame a_lostAt a_blackAt a_slips a_leftArc a_died a_arcs m_bestSum m_nearest m_nearestTown a_there a_backAt a_sorted a_parts m_seed1 m_darkNow), (cAI g a_tape 900 d_tape), (cAI g a_letters 8 d_letters2_83)] X dX11_showsLine_67 0 rfl (iv_in iv_96 (by decide) (by decide)) rfl ?_
          have i_99 : z_94.toInt = 126 + 1 * u_7.toInt := by omega
          refine (fun hg : ∀ fa_97 : Nat → Int32, fa_97 = upd uf_3 (z_94 : Int32).toNatClampNeg r_70 → RInv fa_97 → K16 uf_3 fa_97 → Wk p l e _ s m args below meth c _ A g _ _ _ [(cAI g a_fresh 311 fa_97), (cO11_i1r1i10r1i2r5i2r12i3r4i2 h0 m_thrown a_tape m_taped m_size m_at2_81 m_end2_82 m_token2_85 m_whole2_86 m_nameSize2_84 m_fault2_68 m_place2_69 m_trouble a_letters m_failed2_67 m_hasHouse a_r a_fresh a_st a_undone a_kept m_undos m_images a_from a_begin a_motor a_change a_startFrame a_changeFrame a_lostAt a_blackAt a_slips a_leftArc a_died a_arcs m_bestSum m_nearest m_nearestTown a_there a_backAt a_sorted a_parts m_seed1 m_darkNow), (cAI g a_tape 900 d_tape), (cAI g a_letters 8 d_letters2_83)] _ _ _ => hg _ rfl (w_rb_126_1 hp_4 i_99 (iv_w iv_79 (by decide) (by decide)) (iv_w iv_72 (by decide) (by decide))) (k16_u (z := z_94) (by have := iv_96; omega))) (fun fa_97 eq_101 hR_98 hk_100 => ?_)
          have hT_102 : TRI fa_97 := by have := iv_96; exact tri_z (z := z_94) eq_101 hT_5 hp_4 (by omega) (by omega) (by omega) (by omega) (by omega)
          obtain ⟨z_103, ez_103⟩ : ∃ y : Int32, u_7 + Int32.ofInt 1 = y := ⟨_, rfl⟩
          refine k_iinc z_103 [(1, .int z_103), (3, .int r_70), (2, .int u_9), (0, .ref h0)] 2 X dX11_showsLine_68 rfl ez_103 (by decide) rfl ?_
          have i_104 : z_103.toInt = u_7.toInt + 1 := in_inc ez_103 (by decide) iv_79 (by decide) (by decide)
          have iv_105 : IV z_103 1 8 := iz1 i_104 iv_79 (by decide) (by decide)
          refine k_aload_n X dX11_showsLine_71 3 rfl ?_
          refine k_callVI (n := 0) (As := []) (st := []) X [(cO11_i1r1i10r1i2r5i2r12i3r4i2 h0 m_thrown a_tape m_taped m_size m_at2_81 m_end2_82 m_token2_85 m_whole2_86 m_nameSize2_84 m_fault2_68 m_place2_69 m_trouble a_letters m_failed2_67 m_hasHouse a_r a_fresh a_st a_undone a_kept m_undos m_images a_from a_begin a_motor a_change a_startFrame a_changeFrame a_lostAt a_blackAt a_slips a_leftArc a_died a_arcs m_bestSum m_nearest m_nearestTown a_there a_backAt a_sorted a_parts m_seed1 m_darkNow), (cAI g a_tape 900 d_tape), (cAI g a_letters 8 d_letters2_83)] [(cAI g a_fresh 311 fa_97)] [1, 2, 3] [0] (m_commaX l g h0 m_thrown a_tape m_taped m_size m_at2_81 m_end2_82 m_token2_85 m_whole2_86 m_nameSize2_84 m_fault2_68 m_place2_69 m_trouble a_letters m_failed2_67 m_hasHouse a_r a_fresh a_st a_undone a_kept m_undos m_images a_from a_begin a_motor a_change a_startFrame a_changeFrame a_lostAt a_blackAt a_slips a_leftArc a_died a_arcs m_bestSum m_nearest m_nearestTown a_there a_backAt a_sorted a_parts m_seed1 m_darkNow d_tape d_letters2_83 (iv_w hv_m_size (by decide) (by decide)) (iv_w iv_88 (by decide) (by decide)) (iv_w iv_89 (by decide) (by decide)) (iv_w iv_77 (by decide) (by decide)) hk_93) dX11_showsLine_72 mw603 mw604 mw605 mw5 mw606 rfl 11 rfl rfl 0 _ rfl yk_yX11_comma_0 rfl (Nat.le_of_ble_eq_true rfl) (Nat.le_of_ble_eq_true rfl) (Nat.le_of_ble_eq_true rfl) (Nat.le_of_ble_eq_true rfl) (Nat.le_of_ble_eq_true rfl) rfl rfl (by decide) rfl (by decide) (by decide) ?_
          intro r_112 w zq
          refine exE6 zq ?_
          clear zq
          intro m_at2_106 m_end2_107 d_letters2_108 m_nameSize2_109 m_token2_110 m_whole2_111 iv_113 zq
          refine exA5 zq ?_
          clear zq
          intro iv_114 iv_115 hq_116 hq_117 hk_118 zq
          subst zq
          refine k_ws [(cAI g a_fresh 311 fa_97), (cO11_i1r1i10r1i2r5i2r12i3r4i2 h0 m_thrown a_tape m_taped m_size m_at2_106 m_end2_107 m_token2_110 m_whole2_111 m_nameSize2_109 m_fault2_68 m_place2_69 m_trouble a_letters m_failed2_67 m_hasHouse a_r a_fresh a_st a_undone a_kept m_undos m_images a_from a_begin a_motor a_change a_startFrame a_changeFrame a_lostAt a_blackAt a_slips a_leftArc a_died a_arcs m_bestSum m_nearest m_nearestTown a_there a_backAt a_sorted a_parts m_seed1 m_darkNow), (cAI g a_tape 900 d_tape), (cAI g a_letters 8 d_letters2_108)] rfl ?_
          refine k_istore_n [(2, .int r_112), (1, .int z_103), (3, .int r_70), (0, .ref h0)] X dX11_showsLine_75 (by decide) rfl ?_
          refine k_goto 12 X dX11_showsLine_76 (by decide) ?_
          refine k_lv [(2, .int r_112), (1, .int z_103), (0, .ref h0)] [0, 1, 3] rfl ?_
          refine k_sub [(cO11_i1r1i10r1i2r5i2r12i3r4i2 h0 m_thrown a_tape m_taped m_size m_at2_106 m_end2_107 m_token2_110 m_whole2_111 m_nameSize2_109 m_fault2_68 m_place2_69 m_trouble a_letters m_failed2_67 m_hasHouse a_r a_fresh a_st a_undone a_kept m_undos m_images a_from a_begin a_motor a_change a_startFrame a_changeFrame a_lostAt a_blackAt a_slips a_leftArc a_died a_arcs m_bestSum m_nearest m_nearestTown a_there a_backAt a_sorted a_parts m_seed1 m_darkNow), (cAI g a_tape 900 d_tape), (cAI g a_letters 8 d_letters2_108), (cAI g a_fresh 311 fa_97)] [1, 2, 3, 0] rfl (by decide) rfl ?_
          exact ih_26 _ (by omega) fa_97 d_letters2_108 z_103 r_112 m_place2_69 m_failed2_67 m_at2_106 m_end2_107 m_token2_110 m_whole2_111 m_nameSize2_109 m_fault2_68 rfl hR_98 hT_102 (iv_w iv_105 (by decide) (by decide)) (iv_w iv_115 (by decide) (by decide)) (iv_w iv_77 (by decide) (by decide)) (iv_w iv_113 (by decide) (by decide)) (iv_w iv_114 (by decide) (by decide)) hk_118 (by omega) (fun m_at2 m_end2 m_failed2 m_fault2 d_fresh2 d_letters2 m_nameSize2 m_place2 m_token2 m_whole2 h => h.elim (fun n_0 q => (KH_0 _ _ _ _ _ _ _ _ _ _ ⟨n_0 + 1, (Or.inr ⟨h_27, ⟨m_failed2_67, m_fault2_68, m_place2_69, r_70, hq_73, (Or.inr ⟨h_74, (Or.inl ⟨h_78, ⟨m_at2_81, m_end2_82, d_letters2_83, m_nameSize2_84, m_token2_85, m_whole2_86, hq_92, ⟨z_94, ez_94, ⟨fa_97, eq_101, ⟨z_103, ez_103, ⟨m_at2_106, m_end2_107, d_letters2_108, m_nameSize2_109, m_token2_110, m_whole2_111, r_112, hq_117, q⟩⟩⟩⟩⟩⟩)⟩)⟩⟩)⟩)))
        · skip
          have iv_119 : IV u_7 8 8 := iv_meet hv_8 (iv_e h_78 (show IV 8 8 8 from (by decide))) (by decide) (by decide)
          refine k_aload_n X dX11_showsLine_37 3 rfl ?_
          refine k_iconst (v := 5) X dX11_showsLine_38 (by decide) ?_
          refine k_aload_n X dX11_showsLine_39 3 rfl ?_
          refine k_get (ci := 11) X inlX11 rfl 4 (by decide) dX11_showsLine_40 mw473 1 rfl rfl ?_
          refine k_callVV (n := 2) (As := [.int 5, .int u_14]) (st := []) X [(cO11_i1r1i10r1i2r5i2r12i3r4i2 h0 m_thrown a_tape m_taped m_size u_14 u_15 u_17 u_18 u_19 m_fault2_68 m_place2_69 m_trouble a_letters m_failed2_67 m_hasHouse a_r a_fresh a_st a_undone a_kept m_undos m_images a_from a_begin a_motor a_change a_startFrame a_changeFrame a_lostAt a_blackAt a_slips a_leftArc a_died a_arcs m_bestSum m_nearest m_nearestTown a_there a_backAt a_sorted a_parts m_seed1 m_darkNow)] [(cAI g a_tape 900 d_tape), (cAI g a_letters 8 uf_6), (cAI g a_fresh 311 uf_3)] [1] [0, 2, 3] (m_badX l g h0 5 u_14 m_thrown a_tape m_taped m_size u_14 u_15 u_17 u_18 u_19 m_fault2_68 m_place2_69 m_trouble a_letters m_failed2_67 m_hasHouse a_r a_fresh a_st a_undone a_kept m_undos m_images a_from a_begin a_motor a_change a_startFrame a_changeFrame a_lostAt a_blackAt a_slips a_leftArc a_died a_arcs m_bestSum m_nearest m_nearestTown a_there a_backAt a_sorted a_parts m_seed1 m_darkNow (iv_w iv_77 (by decide) (by decide))) dX11_showsLine_43 mw519 mw520 mw521 mw5 mw522 rfl 11 rfl rfl 0 _ rfl yk_yX11_bad_2 rfl (Nat.le_of_ble_eq_true rfl) (Nat.le_of_ble_eq_true rfl) (Nat.le_of_ble_eq_true rfl) (Nat.le_of_ble_eq_true rfl) (Nat.le_of_ble_eq_true rfl) rfl rfl (by decide) rfl (by decide) (by decide) ?_
          rintro w ⟨m_failed2_120, m_fault2_121, m_place2_122, iv_124, hq_125, rfl⟩
          refine k_ws [(cAI g a_tape 900 d_tape), (cAI g a_letters 8 uf_6), (cAI g a_fresh 311 uf_3), (cO11_i1r1i10r1i2r5i2r12i3r4i2 h0 m_thrown a_tape m_taped m_size u_14 u_15 u_17 u_18 u_19 m_fault2_121 m_place2_122 m_trouble a_letters m_failed2_120 m_hasHouse a_r a_fresh a_st a_undone a_kept m_undos m_images a_from a_begin a_motor a_change a_startFrame a_changeFrame a_lostAt a_blackAt a_slips a_leftArc a_died a_arcs m_bestSum m_nearest m_nearestTown a_there a_backAt a_sorted a_parts m_seed1 m_darkNow)] rfl ?_
          refine k_aload_n X dX11_showsLine_46 3 rfl ?_
          refine k_get (ci := 11) X inlX11 rfl 13 (by decide) dX11_showsLine_47 mw469 3 rfl rfl ?_
          refine k_if_eq 54 X dX11_showsLine_50 (by decide) (fun h_126 => (iv_eqN h_126 iv_124 (show IV 0 0 0 from (by decide)) (by decide)).elim) (fun h_126 => ?_)
          exact k_vret X hr dX11_showsLine_53 (Nat.le_of_ble_eq_true rfl) (Nat.le_of_ble_eq_true rfl) [3, 0, 1, 2] (by decide) rfl rfl ⟨u_14, u_15, m_failed2_120, m_fault2_121, uf_3, uf_6, u_19, m_place2_122, u_17, u_18, (iv_w hv_16 (by decide) (by decide)), (iv_w iv_124 (by decide) (by decide)), (iv_w hv_20 (by decide) (by decide)), hp_4, (by omega), hT_5, (KH_0 _ _ _ _ _ _ _ _ _ _ ⟨0 + 1, (Or.inr ⟨h_27, ⟨m_failed2_67, m_fault2_68, m_place2_69, r_70, hq_73, (Or.inr ⟨h_74, (Or.inr ⟨h_78, ⟨m_failed2_120, m_fault2_121, m_place2_122, hq_125, ⟨rfl, rfl, rfl, rfl, rfl, rfl, rfl, rfl, rfl, rfl⟩⟩⟩)⟩)⟩⟩)⟩), hx_22, rfl⟩
  · skip
    have iv_127 : IV m_failed 1 1 := iv_neL h_1 hv_m_failed (show IV 0 0 0 from (by decide)) (by decide)
    exact k_vret X hr dX11_showsLine_7 (Nat.le_of_ble_eq_true rfl) (Nat.le_of_ble_eq_true rfl) [0, 1, 2, 3] (by decide) rfl rfl ⟨m_at, m_end, m_failed, m_fault, d_fresh, d_letters, m_nameSize, m_place, m_token, m_whole, (iv_w hv_m_end (by decide) (by decide)), (iv_w iv_127 (by decide) (by decide)), (iv_w hv_m_nameSize (by decide) (by decide)), hp_d_fresh, (by omega), hr_0, (Or.inr ⟨h_1, ⟨rfl, rfl, rfl, rfl, rfl, rfl, rfl, rfl, rfl, rfl⟩⟩), hc_0, rfl⟩


set_option maxHeartbeats 4000000 in
set_option maxRecDepth 100000 in
theorem m_boysLineX (l : Launch) (g : Gx) (h0 : Nat) (m_thrown : Int32) (a_tape : Nat) (m_taped : Int32) (m_size : Int32) (m_at : Int32) (m_end : Int32) (m_token : Int32) (m_whole : Int32) (m_nameSize : Int32) (m_fault : Int32) (m_place : Int32) (m_trouble : Int32) (a_letters : Nat) (m_failed : Int32) (m_hasHouse : Int32) (a_r : Nat) (a_fresh : Nat) (a_st : Nat) (a_undone : Nat) (a_kept : Nat) (m_undos : Int32) (m_images : Int32) (a_from : Nat) (a_begin : Nat) (a_motor : Nat) (a_change : Nat) (a_startFrame : Nat) (a_changeFrame : Nat) (a_lostAt : Nat) (a_blackAt : Nat) (a_slips : Nat) (a_leftArc : Nat) (a_died : Nat) (a_arcs : Nat) (m_bestSum : Int32) (m_nearest : Int32) (m_nearestTown : Int32) (a_there : Nat) (a_backAt : Nat) (a_sorted : Nat) (a_parts : Nat) (m_seed1 : Int32) (m_darkNow : Int32) (d_tape : Nat → Int32) (d_letters : Nat → Int32) (d_fresh : Nat → Int32) (hv_m_size : IV m_size 0 900) (hv_m_end : IV m_end 0 900) (hv_m_nameSize : IV m_nameSize 0 900) (hv_m_failed : IV m_failed 0 1) (hp_d_fresh : RInv d_fresh) (hr_0 : TRI d_fresh) (hc_0 : m_token = 2 → IV m_nameSize 0 8) : cV l g yX11_boysLine cX11_boysLine 2 8 173 0 0 [.ref h0] [(cO11_i1r1i10r1i2r5i2r12i3r4i2 h0 m_thrown a_tape m_taped m_size m_at m_end m_token m_whole m_nameSize m_fault m_place m_trouble a_letters m_failed m_hasHouse a_r a_fresh a_st a_undone a_kept m_undos m_images a_from a_begin a_motor a_change a_startFrame a_changeFrame a_lostAt a_blackAt a_slips a_leftArc a_died a_arcs m_bestSum m_nearest m_nearestTown a_there a_backAt a_sorted a_parts m_seed1 m_darkNow), (cAI g a_tape 900 d_tape), (cAI g a_letters 8 d_letters), (cAI g a_fresh 311 d_fresh)] (fun w => ∃ (m_at2 : Int32) (m_end2 : Int32) (m_failed2 : Int32) (m_fault2 : Int32) (d_fresh2 : Nat → Int32) (d_letters2 : Nat → Int32) (m_nameSize2 : Int32) (m_place2 : Int32) (m_token2 : Int32) (m_whole2 : Int32), IV m_end2 0 900 ∧ IV m_failed2 0 1 ∧ IV m_nameSize2 0 900 ∧ RInv d_fresh2 ∧ (m_end.toInt ≤ m_end2.toInt) ∧ (TRI d_fresh2) ∧ (R_m_boysLineX m_size m_at m_end m_token m_whole m_nameSize m_fault m_place m_failed d_tape d_letters d_fresh m_at2 m_end2 m_failed2 m_fault2 d_fresh2 d_letters2 m_nameSize2 m_place2 m_token2 m_whole2) ∧ (m_token2 = 2 → IV m_nameSize2 0 8) ∧ w = [(cO11_i1r1i10r1i2r5i2r12i3r4i2 h0 m_thrown a_tape m_taped m_size m_at2 m_end2 m_token2 m_whole2 m_nameSize2 m_fault2 m_place2 m_trouble a_letters m_failed2 m_hasHouse a_r a_fresh a_st a_undone a_kept m_undos m_images a_from a_begin a_motor a_change a_startFrame a_changeFrame a_lostAt a_blackAt a_slips a_leftArc a_died a_arcs m_bestSum m_nearest m_nearestTown a_there a_backAt a_sorted a_parts m_seed1 m_darkNow), (cAI g a_tape 900 d_tape), (cAI g a_letters 8 d_letters2), (cAI g a_fresh 311 d_fresh2)]) := by
  refine cV.of (by decide) (Nat.le_of_ble_eq_true rfl) ?_
  intro p e s m args below meth c A X hr hi
  refine k_lveq [(0, .ref h0)] rfl ?_
  refine k_aload_n X dX11_boysLine_0 0 rfl ?_
  refine k_get (ci := 11) X inlX11 rfl 13 (by decide) dX11_boysLine_1 mw469 0 rfl rfl ?_
  refine k_if_eq 8 X dX11_boysLine_4 (by decide) (fun h_1 => ?_) (fun h_1 => ?_)
  · skip
    have iv_2 : IV m_failed 0 0 := iv_meet hv_m_failed (iv_e h_1 (show IV 0 0 0 from (by decide))) (by decide) (by decide)
    refine k_aload_n X dX11_boysLine_8 0 rfl ?_
    refine k_iconst (v := 1) X dX11_boysLine_9 (by decide) ?_
    refine k_iconst (v := 4) X dX11_boysLine_10 (by decide) ?_
    refine k_callVI (n := 2) (As := [.int 1, .int 4]) (st := []) X [(cO11_i1r1i10r1i2r5i2r12i3r4i2 h0 m_thrown a_tape m_taped m_size m_at m_end m_token m_whole m_nameSize m_fault m_place m_trouble a_letters m_failed m_hasHouse a_r a_fresh a_st a_undone a_kept m_undos m_images a_from a_begin a_motor a_change a_startFrame a_changeFrame a_lostAt a_blackAt a_slips a_leftArc a_died a_arcs m_bestSum m_nearest m_nearestTown a_there a_backAt a_sorted a_parts m_seed1 m_darkNow), (cAI g a_tape 900 d_tape), (cAI g a_letters 8 d_letters)] [(cAI g a_fresh 311 d_fresh)] [0, 1, 2] [3] (m_numberX l g h0 1 4 m_thrown a_tape m_taped m_size m_at m_end m_token m_whole m_nameSize m_fault m_place m_trouble a_letters m_failed m_hasHouse a_r a_fresh a_st a_undone a_kept m_undos m_images a_from a_begin a_motor a_change a_startFrame a_changeFrame a_lostAt a_blackAt a_slips a_leftArc a_died a_arcs m_bestSum m_nearest m_nearestTown a_there a_backAt a_sorted a_parts m_seed1 m_darkNow d_tape d_letters (iv_w hv_m_size (by decide) (by decide)) (iv_w hv_m_end (by decide) (by decide)) (iv_w hv_m_nameSize (by decide) (by decide)) (iv_w iv_2 (by decide) (by decide)) hc_0) dX11_boysLine_11 mw535 mw536 mw537 mw5 mw538 rfl 11 rfl rfl 0 _ rfl yk_yX11_number_2 rfl (Nat.le_of_ble_eq_true rfl) (Nat.le_of_ble_eq_true rfl) (Nat.le_of_ble_eq_true rfl) (Nat.le_of_ble_eq_true rfl) (Nat.le_of_ble_eq_true rfl) rfl rfl (by decide) rfl (by decide) (by decide) ?_
    intro r_12 w zq
    refine exE9 zq ?_
    clear zq
    intro m_at2_3 m_end2_4 m_failed2_5 m_fault2_6 d_letters2_7 m_nameSize2_8 m_place2_9 m_token2_10 m_whole2_11 iv_13 zq
    refine exA6 zq ?_
    clear zq
    intro iv_14 iv_15 hq_16 hq_17 hq_18 hk_19 zq
    subst zq
    refine k_ws [(cAI g a_fresh 311 d_fresh), (cO11_i1r1i10r1i2r5i2r12i3r4i2 h0 m_thrown a_tape m_taped m_size m_at2_3 m_end2_4 m_token2_10 m_whole2_11 m_nameSize2_8 m_fault2_6 m_place2_9 m_trouble a_letters m_failed2_5 m_hasHouse a_r a_fresh a_st a_undone a_kept m_undos m_images a_from a_begin a_motor a_change a_startFrame a_changeFrame a_lostAt a_blackAt a_slips a_leftArc a_died a_arcs m_bestSum m_nearest m_nearestTown a_there a_backAt a_sorted a_parts m_seed1 m_darkNow), (cAI g a_tape 900 d_tape), (cAI g a_letters 8 d_letters2_7)] rfl ?_
    have e_20 : (1 : Int32).toInt = 1 := by decide
    have e_21 : (4 : Int32).toInt = 4 := by decide
    have iv_22 : IV r_12 1 4 := by have := (show IV 1 1 1 from (by decide)); have := (show IV 4 4 4 from (by decide)); rw [IV]; omega
    refine k_istore_n [(1, .int r_12), (0, .ref h0)] X dX11_boysLine_14 (by decide) rfl ?_
    refine k_aload_n X dX11_boysLine_15 1 rfl ?_
    refine k_get (ci := 11) X inlX11 rfl 16 (by decide) dX11_boysLine_16 mw171 1 rfl rfl ?_
    refine k_sipush (v := 135) X dX11_boysLine_19 (by decide) ?_
    refine k_aload_n X dX11_boysLine_22 1 rfl ?_
    refine k_ldcwS (tx := "ride") X dX11_boysLine_23 (by decide +kernel) (fun sr_23 hsr_23 => ?_)
    refine k_iconst (v := 1) X dX11_boysLine_26 (by decide) ?_
    refine k_sipush (v := 2000) X dX11_boysLine_27 (by decide) ?_
    refine k_callVI (n := 3) (As := [.ref sr_23, .int 1, .int 2000]) (st := [.int 135, .ref a_fresh]) X [(cO11_i1r1i10r1i2r5i2r12i3r4i2 h0 m_thrown a_tape m_taped m_size m_at2_3 m_end2_4 m_token2_10 m_whole2_11 m_nameSize2_8 m_fault2_6 m_place2_9 m_trouble a_letters m_failed2_5 m_hasHouse a_r a_fresh a_st a_undone a_kept m_undos m_images a_from a_begin a_motor a_change a_startFrame a_changeFrame a_lostAt a_blackAt a_slips a_leftArc a_died a_arcs m_bestSum m_nearest m_nearestTown a_there a_backAt a_sorted a_parts m_seed1 m_darkNow), (cAI g a_tape 900 d_tape), (cAI g a_letters 8 d_letters2_7)] [(cAI g a_fresh 311 d_fresh)] [1, 2, 3] [0] (m_afterX l g h0 sr_23 1 2000 m_thrown a_tape m_taped m_size m_at2_3 m_end2_4 m_token2_10 m_whole2_11 m_nameSize2_8 m_fault2_6 m_place2_9 m_trouble a_letters m_failed2_5 m_hasHouse a_r a_fresh a_st a_undone a_kept m_undos m_images a_from a_begin a_motor a_change a_startFrame a_changeFrame a_lostAt a_blackAt a_slips a_leftArc a_died a_arcs m_bestSum m_nearest m_nearestTown a_there a_backAt a_sorted a_parts m_seed1 m_darkNow d_tape d_letters2_7 ("ride") (iv_w hv_m_size (by decide) (by decide)) (iv_w iv_13 (by decide) (by decide)) (iv_w iv_15 (by decide) (by decide)) (iv_w iv_14 (by decide) (by decide)) hsr_23 hk_19) dX11_boysLine_30 mw523 mw524 mw525 mw5 mw526 rfl 11 rfl rfl 0 _ rfl yk_yX11_after_3 rfl (Nat.le_of_ble_eq_true rfl) (Nat.le_of_ble_eq_true rfl) (Nat.le_of_ble_eq_true rfl) (Nat.le_of_ble_eq_true rfl) (Nat.le_of_ble_eq_true rfl) rfl rfl (by decide) rfl (by decide) (by decide) ?_
    intro r_33 w zq
    refine exE9 zq ?_
    clear zq
    intro m_at2_24 m_end2_25 m_failed2_26 m_fault2_27 d_letters2_28 m_nameSize2_29 m_place2_30 m_token2_31 m_whole2_32 iv_34 zq
    refine exA6 zq ?_
    clear zq
    intro iv_35 iv_36 hq_37 hq_38 hq_39 hk_40 zq
    subst zq
    refine k_ws [(cAI g a_fresh 311 d_fresh), (cO11_i1r1i10r1i2r5i2r12i3r4i2 h0 m_thrown a_tape m_taped m_size m_at2_24 m_end2_25 m_token2_31 m_whole2_32 m_nameSize2_29 m_fault2_27 m_place2_30 m_trouble a_letters m_failed2_26 m_hasHouse a_r a_fresh a_st a_undone a_kept m_undos m_images a_from a_begin a_motor a_change a_startFrame a_changeFrame a_lostAt a_blackAt a_slips a_leftArc a_died a_arcs m_bestSum m_nearest m_nearestTown a_there a_backAt a_sorted a_parts m_seed1 m_darkNow), (cAI g a_tape 900 d_tape), (cAI g a_letters 8 d_letters2_28)] rfl ?_
    have e_41 : (1 : Int32).toInt = 1 := by decide
    have e_42 : (2000 : Int32).toInt = 2000 := by decide
    have iv_43 : IV r_33 1 2000 := by have := (show IV 1 1 1 from (by decide)); have := (show IV 2000 2000 2000 from (by decide)); rw [IV]; omega
    refine k_iast [(cAI g a_fresh 311 (upd d_fresh (135 : Int32).toNatClampNeg r_33)), (cO11_i1r1i10r1i2r5i2r12i3r4i2 h0 m_thrown a_tape m_taped m_size m_at2_24 m_end2_25 m_token2_31 m_whole2_32 m_nameSize2_29 m_fault2_27 m_place2_30 m_trouble a_letters m_failed2_26 m_hasHouse a_r a_fresh a_st a_undone a_kept m_undos m_images a_from a_begin a_motor a_change a_startFrame a_changeFrame a_lostAt a_blackAt a_slips a_leftArc a_died a_arcs m_bestSum m_nearest m_nearestTown a_there a_backAt a_sorted a_parts m_seed1 m_darkNow), (cAI g a_tape 900 d_tape), (cAI g a_letters 8 d_letters2_28)] X dX11_boysLine_33 0 rfl (by unfold vp_in; decide) rfl ?_
    refine (fun hg : ∀ fa_44 : Nat → Int32, fa_44 = upd d_fresh (135 : Int32).toNatClampNeg r_33 → RInv fa_44 → K16 d_fresh fa_44 → Wk p l e _ s m args below meth c _ A g _ _ _ [(cAI g a_fresh 311 fa_44), (cO11_i1r1i10r1i2r5i2r12i3r4i2 h0 m_thrown a_tape m_taped m_size m_at2_24 m_end2_25 m_token2_31 m_whole2_32 m_nameSize2_29 m_fault2_27 m_place2_30 m_trouble a_letters m_failed2_26 m_hasHouse a_r a_fresh a_st a_undone a_kept m_undos m_images a_from a_begin a_motor a_change a_startFrame a_changeFrame a_lostAt a_blackAt a_slips a_leftArc a_died a_arcs m_bestSum m_nearest m_nearestTown a_there a_backAt a_sorted a_parts m_seed1 m_darkNow), (cAI g a_tape 900 d_tape), (cAI g a_letters 8 d_letters2_28)] _ _ _ => hg _ rfl (w_fr_135 hp_d_fresh) (k16_u (z := 135) (by have := (show IV 135 135 135 from (by decide)); omega))) (fun fa_44 eq_47 hR_45 hk_46 => ?_)
    have hT_48 : TRI fa_44 := by rw [eq_47]; exact tri_n (z := 135) hr_0 hp_d_fresh (by decide) (by decide) (by decide) (by decide)
    refine k_aload_n X dX11_boysLine_34 1 rfl ?_
    refine k_get (ci := 11) X inlX11 rfl 16 (by decide) dX11_boysLine_35 mw171 1 rfl rfl ?_
    refine k_sipush (v := 136) X dX11_boysLine_38 (by decide) ?_
    refine k_aload_n X dX11_boysLine_41 1 rfl ?_
    refine k_ldcwS (tx := "falls") X dX11_boysLine_42 (by decide +kernel) (fun sr_49 hsr_49 => ?_)
    refine k_iconst (v := 0) X dX11_boysLine_45 (by decide) ?_
    refine k_bipush (v := 50) X dX11_boysLine_46 (by decide) ?_
    refine k_callVI (n := 3) (As := [.ref sr_49, .int 0, .int 50]) (st := [.int 136, .ref a_fresh]) X [(cO11_i1r1i10r1i2r5i2r12i3r4i2 h0 m_thrown a_tape m_taped m_size m_at2_24 m_end2_25 m_token2_31 m_whole2_32 m_nameSize2_29 m_fault2_27 m_place2_30 m_trouble a_letters m_failed2_26 m_hasHouse a_r a_fresh a_st a_undone a_kept m_undos m_images a_from a_begin a_motor a_change a_startFrame a_changeFrame a_lostAt a_blackAt a_slips a_leftArc a_died a_arcs m_bestSum m_nearest m_nearestTown a_there a_backAt a_sorted a_parts m_seed1 m_darkNow), (cAI g a_tape 900 d_tape), (cAI g a_letters 8 d_letters2_28)] [(cAI g a_fresh 311 fa_44)] [1, 2, 3] [0] (m_afterX l g h0 sr_49 0 50 m_thrown a_tape m_taped m_size m_at2_24 m_end2_25 m_token2_31 m_whole2_32 m_nameSize2_29 m_fault2_27 m_place2_30 m_trouble a_letters m_failed2_26 m_hasHouse a_r a_fresh a_st a_undone a_kept m_undos m_images a_from a_begin a_motor a_change a_startFrame a_changeFrame a_lostAt a_blackAt a_slips a_leftArc a_died a_arcs m_bestSum m_nearest m_nearestTown a_there a_backAt a_sorted a_parts m_seed1 m_darkNow d_tape d_letters2_28 ("falls") (iv_w hv_m_size (by decide) (by decide)) (iv_w iv_34 (by decide) (by decide)) (iv_w iv_36 (by decide) (by decide)) (iv_w iv_35 (by decide) (by decide)) hsr_49 hk_40) dX11_boysLine_48 mw523 mw524 mw525 mw5 mw526 rfl 11 rfl rfl 0 _ rfl yk_yX11_after_3 rfl (Nat.le_of_ble_eq_true rfl) (Nat.le_of_ble_eq_true rfl) (Nat.le_of_ble_eq_true rfl) (Nat.le_of_ble_eq_true rfl) (Nat.le_of_ble_eq_true rfl) rfl rfl (by decide) rfl (by decide) (by decide) ?_
    intro r_59 w zq
    refine exE9 zq ?_
    clear zq
    intro m_at2_50 m_end2_51 m_failed2_52 m_fault2_53 d_letters2_54 m_nameSize2_55 m_place2_56 m_token2_57 m_whole2_58 iv_60 zq
    refine exA6 zq ?_
    clear zq
    intro iv_61 iv_62 hq_63 hq_64 hq_65 hk_66 zq
    subst zq
    refine k_ws [(cAI g a_fresh 311 fa_44), (cO11_i1r1i10r1i2r5i2r12i3r4i2 h0 m_thrown a_tape m_taped m_size m_at2_50 m_end2_51 m_token2_57 m_whole2_58 m_nameSize2_55 m_fault2_53 m_place2_56 m_trouble a_letters m_failed2_52 m_hasHouse a_r a_fresh a_st a_undone a_kept m_undos m_images a_from a_begin a_motor a_change a_startFrame a_changeFrame a_lostAt a_blackAt a_slips a_leftArc a_died a_arcs m_bestSum m_nearest m_nearestTown a_there a_backAt a_sorted a_parts m_seed1 m_darkNow), (cAI g a_tape 900 d_tape), (cAI g a_letters 8 d_letters2_54)] rfl ?_
    have e_67 : (0 : Int32).toInt = 0 := by decide
    have e_68 : (50 : Int32).toInt = 50 := by decide
    have iv_69 : IV r_59 0 50 := by have := (show IV 0 0 0 from (by decide)); have := (show IV 50 50 50 from (by decide)); rw [IV]; omega
    refine k_iast [(cAI g a_fresh 311 (upd fa_44 (136 : Int32).toNatClampNeg r_59)), (cO11_i1r1i10r1i2r5i2r12i3r4i2 h0 m_thrown a_tape m_taped m_size m_at2_50 m_end2_51 m_token2_57 m_whole2_58 m_nameSize2_55 m_fault2_53 m_place2_56 m_trouble a_letters m_failed2_52 m_hasHouse a_r a_fresh a_st a_undone a_kept m_undos m_images a_from a_begin a_motor a_change a_startFrame a_changeFrame a_lostAt a_blackAt a_slips a_leftArc a_died a_arcs m_bestSum m_nearest m_nearestTown a_there a_backAt a_sorted a_parts m_seed1 m_darkNow), (cAI g a_tape 900 d_tape), (cAI g a_letters 8 d_letters2_54)] X dX11_boysLine_51 0 rfl (by unfold vp_in; decide) rfl ?_
    refine (fun hg : ∀ fa_70 : Nat → Int32, fa_70 = upd fa_44 (136 : Int32).toNatClampNeg r_59 → RInv fa_70 → K16 fa_44 fa_70 → Wk p l e _ s m args below meth c _ A g _ _ _ [(cAI g a_fresh 311 fa_70), (cO11_i1r1i10r1i2r5i2r12i3r4i2 h0 m_thrown a_tape m_taped m_size m_at2_50 m_end2_51 m_token2_57 m_whole2_58 m_nameSize2_55 m_fault2_53 m_place2_56 m_trouble a_letters m_failed2_52 m_hasHouse a_r a_fresh a_st a_undone a_kept m_undos m_images a_from a_begin a_motor a_change a_startFrame a_changeFrame a_lostAt a_blackAt a_slips a_leftArc a_died a_arcs m_bestSum m_nearest m_nearestTown a_there a_backAt a_sorted a_parts m_seed1 m_darkNow), (cAI g a_tape 900 d_tape), (cAI g a_letters 8 d_letters2_54)] _ _ _ => hg _ rfl (w_fr_136 hR_45) (k16_u (z := 136) (by have := (show IV 136 136 136 from (by decide)); omega))) (fun fa_70 eq_73 hR_71 hk_72 => ?_)
    have hT_74 : TRI fa_70 := by rw [eq_73]; exact tri_n (z := 136) hT_48 hR_45 (by decide) (by decide) (by decide) (by decide)
    refine k_aload_n X dX11_boysLine_52 1 rfl ?_
    refine k_get (ci := 11) X inlX11 rfl 13 (by decide) dX11_boysLine_53 mw469 1 rfl rfl ?_
    refine k_if_ne 68 X dX11_boysLine_56 (by decide) (fun h_75 => ?_) (fun h_75 => ?_)
    · skip
      have iv_76 : IV m_failed2_52 1 1 := iv_neL h_75 iv_61 (show IV 0 0 0 from (by decide)) (by decide)
      exact k_vret X hr dX11_boysLine_68 (Nat.le_of_ble_eq_true rfl) (Nat.le_of_ble_eq_true rfl) [1, 2, 3, 0] (by decide) rfl rfl ⟨m_at2_50, m_end2_51, m_failed2_52, m_fault2_53, fa_70, d_letters2_54, m_nameSize2_55, m_place2_56, m_token2_57, m_whole2_58, (iv_w iv_60 (by decide) (by decide)), (iv_w iv_76 (by decide) (by decide)), (iv_w iv_62 (by decide) (by decide)), hR_71, (by omega), hT_74, (Or.inl ⟨h_1, ⟨m_at2_3, m_end2_4, m_failed2_5, m_fault2_6, d_letters2_7, m_nameSize2_8, m_place2_9, m_token2_10, m_whole2_11, r_12, hq_18, ⟨m_at2_24, m_end2_25, m_failed2_26, m_fault2_27, d_letters2_28, m_nameSize2_29, m_place2_30, m_token2_31, m_whole2_32, r_33, hq_39, ⟨fa_44, eq_47, ⟨m_at2_50, m_end2_51, m_failed2_52, m_fault2_53, d_letters2_54, m_nameSize2_55, m_place2_56, m_token2_57, m_whole2_58, r_59, hq_65, ⟨fa_70, eq_73, (Or.inl ⟨h_75, ⟨rfl, rfl, rfl, rfl, rfl, rfl, rfl, rfl, rfl, rfl⟩⟩)⟩⟩⟩⟩⟩⟩), hk_66, rfl⟩
    · skip
      have iv_77 : IV m_failed2_52 0 0 := iv_meet iv_61 (iv_e h_75 (show IV 0 0 0 from (by decide))) (by decide) (by decide)
      refine k_aload_n X dX11_boysLine_59 1 rfl ?_
      refine k_get (ci := 11) X inlX11 rfl 16 (by decide) dX11_boysLine_60 mw171 1 rfl rfl ?_
      refine k_sipush (v := 134) X dX11_boysLine_63 (by decide) ?_
      refine k_iload_n X dX11_boysLine_66 0 rfl ?_
      refine k_iast [(cAI g a_fresh 311 (upd fa_70 (134 : Int32).toNatClampNeg r_12)), (cO11_i1r1i10r1i2r5i2r12i3r4i2 h0 m_thrown a_tape m_taped m_size m_at2_50 m_end2_51 m_token2_57 m_whole2_58 m_nameSize2_55 m_fault2_53 m_place2_56 m_trouble a_letters m_failed2_52 m_hasHouse a_r a_fresh a_st a_undone a_kept m_undos m_images a_from a_begin a_motor a_change a_startFrame a_changeFrame a_lostAt a_blackAt a_slips a_leftArc a_died a_arcs m_bestSum m_nearest m_nearestTown a_there a_backAt a_sorted a_parts m_seed1 m_darkNow), (cAI g a_tape 900 d_tape), (cAI g a_letters 8 d_letters2_54)] X dX11_boysLine_67 0 rfl (by unfold vp_in; decide) rfl ?_
      refine (fun hg : ∀ fa_78 : Nat → Int32, fa_78 = upd fa_70 (134 : Int32).toNatClampNeg r_12 → RInv fa_78 → K16 fa_70 fa_78 → Wk p l e _ s m args below meth c _ A g _ _ _ [(cAI g a_fresh 311 fa_78), (cO11_i1r1i10r1i2r5i2r12i3r4i2 h0 m_thrown a_tape m_taped m_size m_at2_50 m_end2_51 m_token2_57 m_whole2_58 m_nameSize2_55 m_fault2_53 m_place2_56 m_trouble a_letters m_failed2_52 m_hasHouse a_r a_fresh a_st a_undone a_kept m_undos m_images a_from a_begin a_motor a_change a_startFrame a_changeFrame a_lostAt a_blackAt a_slips a_leftArc a_died a_arcs m_bestSum m_nearest m_nearestTown a_there a_backAt a_sorted a_parts m_seed1 m_darkNow), (cAI g a_tape 900 d_tape), (cAI g a_letters 8 d_letters2_54)] _ _ _ => hg _ rfl (w_rb_134 hR_71 (iv_w iv_22 (by decide) (by decide))) (k16_u (z := 134) (by have := (show IV 134 134 134 from (by decide)); omega))) (fun fa_78 eq_81 hR_79 hk_80 => ?_)
      have hT_82 : TRI fa_78 := by rw [eq_81]; exact tri_n (z := 134) hT_74 hR_71 (by decide) (by decide) (by decide) (by decide)
      exact k_vret X hr dX11_boysLine_68 (Nat.le_of_ble_eq_true rfl) (Nat.le_of_ble_eq_true rfl) [1, 2, 3, 0] (by decide) rfl rfl ⟨m_at2_50, m_end2_51, m_failed2_52, m_fault2_53, fa_78, d_letters2_54, m_nameSize2_55, m_place2_56, m_token2_57, m_whole2_58, (iv_w iv_60 (by decide) (by decide)), (iv_w iv_77 (by decide) (by decide)), (iv_w iv_62 (by decide) (by decide)), hR_79, (by omega), hT_82, (Or.inl ⟨h_1, ⟨m_at2_3, m_end2_4, m_failed2_5, m_fault2_6, d_letters2_7, m_nameSize2_8, m_place2_9, m_token2_10, m_whole2_11, r_12, hq_18, ⟨m_at2_24, m_end2_25, m_failed2_26, m_fault2_27, d_letters2_28, m_nameSize2_29, m_place2_30, m_token2_31, m_whole2_32, r_33, hq_39, ⟨fa_44, eq_47, ⟨m_at2_50, m_end2_51, m_failed2_52, m_fault2_53, d_letters2_54, m_nameSize2_55, m_place2_56, m_token2_57, m_whole2_58, r_59, hq_65, ⟨fa_70, eq_73, (Or.inr ⟨h_75, ⟨fa_78, eq_81, ⟨rfl, rfl, rfl, rfl, rfl, rfl, rfl, rfl, rfl, rfl⟩⟩⟩)⟩⟩⟩⟩⟩⟩), hk_66, rfl⟩
  · skip
    have iv_83 : IV m_failed 1 1 := iv_neL h_1 hv_m_failed (show IV 0 0 0 from (by decide)) (by decide)
    exact k_vret X hr dX11_boysLine_7 (Nat.le_of_ble_eq_true rfl) (Nat.le_of_ble_eq_true rfl) [0, 1, 2, 3] (by decide) rfl rfl ⟨m_at, m_end, m_failed, m_fault, d_fresh, d_letters, m_nameSize, m_place, m_token, m_whole, (iv_w hv_m_end (by decide) (by decide)), (iv_w iv_83 (by decide) (by decide)), (iv_w hv_m_nameSize (by decide) (by decide)), hp_d_fresh, (by omega), hr_0, (Or.inr ⟨h_1, ⟨rfl, rfl, rfl, rfl, rfl, rfl, rfl, rfl, rfl, rfl⟩⟩), hc_0, rfl⟩


set_option maxHeartbeats 4000000 in
set_option maxRecDepth 100000 in
theorem m_seenLineX (l : Launch) (g : Gx) (h0 : Nat) (m_thrown : Int32) (a_tape : Nat) (m_taped : Int32) (m_size : Int32) (m_at : Int32) (m_end : Int32) (m_token : Int32) (m_whole : Int32) (m_nameSize : Int32) (m_fault : Int32) (m_place : Int32) (m_trouble : Int32) (a_letters : Nat) (m_failed : Int32) (m_hasHouse : Int32) (a_r : Nat) (a_fresh : Nat) (a_st : Nat) (a_undone : Nat) (a_kept : Nat) (m_undos : Int32) (m_images : Int32) (a_from : Nat) (a_begin : Nat) (a_motor : Nat) (a_change : Nat) (a_startFrame : Nat) (a_changeFrame : Nat) (a_lostAt : Nat) (a_blackAt : Nat) (a_slips : Nat) (a_leftArc : Nat) (a_died : Nat) (a_arcs : Nat) (m_bestSum : Int32) (m_nearest : Int32) (m_nearestTown : Int32) (a_there : Nat) (a_backAt : Nat) (a_sorted : Nat) (a_parts : Nat) (m_seed1 : Int32) (m_darkNow : Int32) (d_tape : Nat → Int32) (d_letters : Nat → Int32) (d_fresh : Nat → Int32) (hv_m_size : IV m_size 0 900) (hv_m_end : IV m_end 0 900) (hv_m_nameSize : IV m_nameSize 0 900) (hv_m_failed : IV m_failed 0 1) (hp_d_fresh : RInv d_fresh) (hr_0 : TRI d_fresh) (hc_0 : m_token = 2 → IV m_nameSize 0 8) : cV l g yX11_seenLine cX11_seenLine 2 8 173 0 0 [.ref h0] [(cO11_i1r1i10r1i2r5i2r12i3r4i2 h0 m_thrown a_tape m_taped m_size m_at m_end m_token m_whole m_nameSize m_fault m_place m_trouble a_letters m_failed m_hasHouse a_r a_fresh a_st a_undone a_kept m_undos m_images a_from a_begin a_motor a_change a_startFrame a_changeFrame a_lostAt a_blackAt a_slips a_leftArc a_died a_arcs m_bestSum m_nearest m_nearestTown a_there a_backAt a_sorted a_parts m_seed1 m_darkNow), (cAI g a_tape 900 d_tape), (cAI g a_letters 8 d_letters), (cAI g a_fresh 311 d_fresh)] (fun w => ∃ (m_at2 : Int32) (m_end2 : Int32) (m_failed2 : Int32) (m_fault2 : Int32) (d_fresh2 : Nat → Int32) (d_letters2 : Nat → Int32) (m_nameSize2 : Int32) (m_place2 : Int32) (m_token2 : Int32) (m_whole2 : Int32), IV m_end2 0 900 ∧ IV m_failed2 0 1 ∧ IV m_nameSize2 0 900 ∧ RInv d_fresh2 ∧ (m_end.toInt ≤ m_end2.toInt) ∧ (TRI d_fresh2) ∧ (R_m_seenLineX m_size m_at m_end m_token m_whole m_nameSize m_fault m_place m_failed d_tape d_letters d_fresh m_at2 m_end2 m_failed2 m_fault2 d_fresh2 d_letters2 m_nameSize2 m_place2 m_token2 m_whole2) ∧ (m_token2 = 2 → IV m_nameSize2 0 8) ∧ w = [(cO11_i1r1i10r1i2r5i2r12i3r4i2 h0 m_thrown a_tape m_taped m_size m_at2 m_end2 m_token2 m_whole2 m_nameSize2 m_fault2 m_place2 m_trouble a_letters m_failed2 m_hasHouse a_r a_fresh a_st a_undone a_kept m_undos m_images a_from a_begin a_motor a_change a_startFrame a_changeFrame a_lostAt a_blackAt a_slips a_leftArc a_died a_arcs m_bestSum m_nearest m_nearestTown a_there a_backAt a_sorted a_parts m_seed1 m_darkNow), (cAI g a_tape 900 d_tape), (cAI g a_letters 8 d_letters2), (cAI g a_fresh 311 d_fresh2)]) := by
  refine cV.of (by decide) (Nat.le_of_ble_eq_true rfl) ?_
  intro p e s m args below meth c A X hr hi
  refine k_lveq [(0, .ref h0)] rfl ?_
  refine k_aload_n X dX11_seenLine_0 0 rfl ?_
  refine k_get (ci := 11) X inlX11 rfl 16 (by decide) dX11_seenLine_1 mw171 0 rfl rfl ?_
  refine k_bipush (v := 13) X dX11_seenLine_4 (by decide) ?_
  refine k_iald X dX11_seenLine_6 3 rfl (by unfold vp_in; decide) ?_
  refine k_nm (fun z_1 ez_1 => ?_)
  have i_2 : z_1.toInt = (d_fresh 13).toInt := by rw [ez_1]; rfl
  have iv_3 : IV z_1 0 6 := rb_13 ez_1 hp_d_fresh
  refine k_bipush (v := 6) X dX11_seenLine_7 (by decide) ?_
  refine k_ic_ne 21 X dX11_seenLine_9 (by decide) (fun h_4 => ?_) (fun h_4 => ?_)
  · skip
    have iv_5 : IV z_1 0 5 := iv_neH h_4 iv_3 (show IV 6 6 6 from (by decide)) (by decide)
    refine k_aload_n X dX11_seenLine_21 0 rfl ?_
    refine k_get (ci := 11) X inlX11 rfl 16 (by decide) dX11_seenLine_22 mw171 0 rfl rfl ?_
    refine k_bipush (v := 15) X dX11_seenLine_25 (by decide) ?_
    refine k_iald X dX11_seenLine_27 3 rfl (by unfold vp_in; decide) ?_
    refine k_nm (fun z_6 ez_6 => ?_)
    refine k_if_eq 41 X dX11_seenLine_28 (by decide) (fun h_7 => ?_) (fun h_7 => ?_)
    · skip
      have iv_8 : IV z_6 0 0 := iv_meet (iv_any z_6) (iv_e h_7 (show IV 0 0 0 from (by decide))) (by decide) (by decide)
      refine k_aload_n X dX11_seenLine_41 0 rfl ?_
      refine k_bipush (v := 6) X dX11_seenLine_42 (by decide) ?_
      refine k_aload_n X dX11_seenLine_44 0 rfl ?_
      refine k_get (ci := 11) X inlX11 rfl 4 (by decide) dX11_seenLine_45 mw473 0 rfl rfl ?_
      refine k_callVV (n := 2) (As := [.int 6, .int m_at]) (st := []) X [(cO11_i1r1i10r1i2r5i2r12i3r4i2 h0 m_thrown a_tape m_taped m_size m_at m_end m_token m_whole m_nameSize m_fault m_place m_trouble a_letters m_failed m_hasHouse a_r a_fresh a_st a_undone a_kept m_undos m_images a_from a_begin a_motor a_change a_startFrame a_changeFrame a_lostAt a_blackAt a_slips a_leftArc a_died a_arcs m_bestSum m_nearest m_nearestTown a_there a_backAt a_sorted a_parts m_seed1 m_darkNow)] [(cAI g a_tape 900 d_tape), (cAI g a_letters 8 d_letters), (cAI g a_fresh 311 d_fresh)] [0] [1, 2, 3] (m_badX l g h0 6 m_at m_thrown a_tape m_taped m_size m_at m_end m_token m_whole m_nameSize m_fault m_place m_trouble a_letters m_failed m_hasHouse a_r a_fresh a_st a_undone a_kept m_undos m_images a_from a_begin a_motor a_change a_startFrame a_changeFrame a_lostAt a_blackAt a_slips a_leftArc a_died a_arcs m_bestSum m_nearest m_nearestTown a_there a_backAt a_sorted a_parts m_seed1 m_darkNow (iv_w hv_m_failed (by decide) (by decide))) dX11_seenLine_48 mw519 mw520 mw521 mw5 mw522 rfl 11 rfl rfl 0 _ rfl yk_yX11_bad_2 rfl (Nat.le_of_ble_eq_true rfl) (Nat.le_of_ble_eq_true rfl) (Nat.le_of_ble_eq_true rfl) (Nat.le_of_ble_eq_true rfl) (Nat.le_of_ble_eq_true rfl) rfl rfl (by decide) rfl (by decide) (by decide) ?_
      rintro w ⟨m_failed2_9, m_fault2_10, m_place2_11, iv_13, hq_14, rfl⟩
      refine k_ws [(cAI g a_tape 900 d_tape), (cAI g a_letters 8 d_letters), (cAI g a_fresh 311 d_fresh), (cO11_i1r1i10r1i2r5i2r12i3r4i2 h0 m_thrown a_tape m_taped m_size m_at m_end m_token m_whole m_nameSize m_fault2_10 m_place2_11 m_trouble a_letters m_failed2_9 m_hasHouse a_r a_fresh a_st a_undone a_kept m_undos m_images a_from a_begin a_motor a_change a_startFrame a_changeFrame a_lostAt a_blackAt a_slips a_leftArc a_died a_arcs m_bestSum m_nearest m_nearestTown a_there a_backAt a_sorted a_parts m_seed1 m_darkNow)] rfl ?_
      refine k_aload_n X dX11_seenLine_51 0 rfl ?_
      refine k_get (ci := 11) X inlX11 rfl 13 (by decide) dX11_seenLine_52 mw469 3 rfl rfl ?_
      refine k_if_eq 59 X dX11_seenLine_55 (by decide) (fun h_15 => (iv_eqN h_15 iv_13 (show IV 0 0 0 from (by decide)) (by decide)).elim) (fun h_15 => ?_)
      exact k_vret X hr dX11_seenLine_58 (Nat.le_of_ble_eq_true rfl) (Nat.le_of_ble_eq_true rfl) [3, 0, 1, 2] (by decide) rfl rfl ⟨m_at, m_end, m_failed2_9, m_fault2_10, d_fresh, d_letters, m_nameSize, m_place2_11, m_token, m_whole, (iv_w hv_m_end (by decide) (by decide)), (iv_w iv_13 (by decide) (by decide)), (iv_w hv_m_nameSize (by decide) (by decide)), hp_d_fresh, (by omega), hr_0, ⟨z_1, ez_1, (Or.inl ⟨h_4, ⟨z_6, ez_6, (Or.inl ⟨h_7, ⟨m_failed2_9, m_fault2_10, m_place2_11, hq_14, ⟨rfl, rfl, rfl, rfl, rfl, rfl, rfl, rfl, rfl, rfl⟩⟩⟩)⟩⟩)⟩, hc_0, rfl⟩
    · skip
      refine k_aload_n X dX11_seenLine_31 0 rfl ?_
      refine k_get (ci := 11) X inlX11 rfl 16 (by decide) dX11_seenLine_32 mw171 0 rfl rfl ?_
      refine k_bipush (v := 12) X dX11_seenLine_35 (by decide) ?_
      refine k_iald X dX11_seenLine_37 3 rfl (by unfold vp_in; decide) ?_
      refine k_nm (fun z_16 ez_16 => ?_)
      have i_17 : z_16.toInt = (d_fresh 12).toInt := by rw [ez_16]; rfl
      have iv_18 : IV z_16 0 8 := rb_12 ez_16 hp_d_fresh
      refine k_if_ne 51 X dX11_seenLine_38 (by decide) (fun h_19 => ?_) (fun h_19 => ?_)
      · skip
        have iv_20 : IV z_16 1 8 := iv_neL h_19 iv_18 (show IV 0 0 0 from (by decide)) (by decide)
        refine k_aload_n X dX11_seenLine_51 0 rfl ?_
        refine k_get (ci := 11) X inlX11 rfl 13 (by decide) dX11_seenLine_52 mw469 0 rfl rfl ?_
        refine k_if_eq 59 X dX11_seenLine_55 (by decide) (fun h_21 => ?_) (fun h_21 => ?_)
        · skip
          have iv_22 : IV m_failed 0 0 := iv_meet hv_m_failed (iv_e h_21 (show IV 0 0 0 from (by decide))) (by decide) (by decide)
          refine k_aload_n X dX11_seenLine_59 0 rfl ?_
          refine k_callVV (n := 0) (As := []) (st := []) X [(cO11_i1r1i10r1i2r5i2r12i3r4i2 h0 m_thrown a_tape m_taped m_size m_at m_end m_token m_whole m_nameSize m_fault m_place m_trouble a_letters m_failed m_hasHouse a_r a_fresh a_st a_undone a_kept m_undos m_images a_from a_begin a_motor a_change a_startFrame a_changeFrame a_lostAt a_blackAt a_slips a_leftArc a_died a_arcs m_bestSum m_nearest m_nearestTown a_there a_backAt a_sorted a_parts m_seed1 m_darkNow), (cAI g a_tape 900 d_tape), (cAI g a_letters 8 d_letters)] [(cAI g a_fresh 311 d_fresh)] [0, 1, 2] [3] (m_nextX l g h0 m_thrown a_tape m_taped m_size m_at m_end m_token m_whole m_nameSize m_fault m_place m_trouble a_letters m_failed m_hasHouse a_r a_fresh a_st a_undone a_kept m_undos m_images a_from a_begin a_motor a_change a_startFrame a_changeFrame a_lostAt a_blackAt a_slips a_leftArc a_died a_arcs m_bestSum m_nearest m_nearestTown a_there a_backAt a_sorted a_parts m_seed1 m_darkNow d_tape d_letters (iv_w hv_m_size (by decide) (by decide)) (iv_w hv_m_end (by decide) (by decide)) (iv_w hv_m_nameSize (by decide) (by decide))) dX11_seenLine_60 mw489 mw490 mw491 mw5 mw492 rfl 11 rfl rfl 0 _ rfl yk_yX11_next_0 rfl (Nat.le_of_ble_eq_true rfl) (Nat.le_of_ble_eq_true rfl) (Nat.le_of_ble_eq_true rfl) (Nat.le_of_ble_eq_true rfl) (Nat.le_of_ble_eq_true rfl) rfl rfl (by decide) rfl (by decide) (by decide) ?_
          intro w zq
          refine exE6 zq ?_
          clear zq
          intro m_at2_23 m_end2_24 d_letters2_25 m_nameSize2_26 m_token2_27 m_whole2_28 iv_30 zq
          refine exA5 zq ?_
          clear zq
          intro iv_31 hq_32 hq_33 hq_34 hk_35 zq
          subst zq
          refine k_ws [(cAI g a_fresh 311 d_fresh), (cO11_i1r1i10r1i2r5i2r12i3r4i2 h0 m_thrown a_tape m_taped m_size m_at2_23 m_end2_24 m_token2_27 m_whole2_28 m_nameSize2_26 m_fault m_place m_trouble a_letters m_failed m_hasHouse a_r a_fresh a_st a_undone a_kept m_undos m_images a_from a_begin a_motor a_change a_startFrame a_changeFrame a_lostAt a_blackAt a_slips a_leftArc a_died a_arcs m_bestSum m_nearest m_nearestTown a_there a_backAt a_sorted a_parts m_seed1 m_darkNow), (cAI g a_tape 900 d_tape), (cAI g a_letters 8 d_letters2_25)] rfl ?_
          refine k_sipush (v := 137) X dX11_seenLine_63 (by decide) ?_
          refine k_iconst (v := 3) X dX11_seenLine_66 (by decide) ?_
          refine k_aload_n X dX11_seenLine_67 0 rfl ?_
          refine k_get (ci := 11) X inlX11 rfl 16 (by decide) dX11_seenLine_68 mw171 1 rfl rfl ?_
          refine k_bipush (v := 13) X dX11_seenLine_71 (by decide) ?_
          refine k_iald X dX11_seenLine_73 0 rfl (by unfold vp_in; decide) ?_
          refine k_to z_1 ez_1.symm ?_
          refine k_imul X dX11_seenLine_74 ?_
          refine k_nm (fun z_36 ez_36 => ?_)
          have i_37 : z_36.toInt = 3 * z_1.toInt := in_mul ez_36 (by decide) (by decide) iv_5 (by decide) (by decide)
          have iv_38 : IV z_36 0 15 := iz4 i_37 iv_5 (by decide) (by decide) (by decide)
          refine k_iadd X dX11_seenLine_75 ?_
          refine k_nm (fun z_39 ez_39 => ?_)
          have i_40 : z_39.toInt = 137 + z_36.toInt := in_add ez_39 (show IV 137 137 137 from (by decide)) iv_38 (by decide) (by decide)
          have iv_41 : IV z_39 137 152 := iz2 i_40 iv_38 (by decide) (by decide)
          refine k_istore_n [(1, .int z_39), (0, .ref h0)] X dX11_seenLine_76 (by decide) rfl ?_
          refine k_aload_n X dX11_seenLine_77 1 rfl ?_
          refine k_get (ci := 11) X inlX11 rfl 16 (by decide) dX11_seenLine_78 mw171 1 rfl rfl ?_
          refine k_iload_n X dX11_seenLine_81 0 rfl ?_
          refine k_aload_n X dX11_seenLine_82 1 rfl ?_
          refine k_iconst (v := 1) X dX11_seenLine_83 (by decide) ?_
          refine k_aload_n X dX11_seenLine_84 1 rfl ?_
          refine k_get (ci := 11) X inlX11 rfl 16 (by decide) dX11_seenLine_85 mw171 1 rfl rfl ?_
          refine k_bipush (v := 12) X dX11_seenLine_88 (by decide) ?_
          refine k_iald X dX11_seenLine_90 0 rfl (by unfold vp_in; decide) ?_
          refine k_to z_16 ez_16.symm ?_
          refine k_iconst (v := 1) X dX11_seenLine_91 (by decide) ?_
          refine k_isub X dX11_seenLine_92 ?_
          refine k_nm (fun z_42 ez_42 => ?_)
          have i_43 : z_42.toInt = z_16.toInt - 1 := in_sub ez_42 iv_20 (show IV 1 1 1 from (by decide)) (by decide) (by decide)
          have iv_44 : IV z_42 0 7 := iz5 i_43 iv_20 (by decide) (by decide)
          refine k_callVI (n := 2) (As := [.int 1, .int z_42]) (st := [.int z_39, .ref a_fresh]) X [(cO11_i1r1i10r1i2r5i2r12i3r4i2 h0 m_thrown a_tape m_taped m_size m_at2_23 m_end2_24 m_token2_27 m_whole2_28 m_nameSize2_26 m_fault m_place m_trouble a_letters m_failed m_hasHouse a_r a_fresh a_st a_undone a_kept m_undos m_images a_from a_begin a_motor a_change a_startFrame a_changeFrame a_lostAt a_blackAt a_slips a_leftArc a_died a_arcs m_bestSum m_nearest m_nearestTown a_there a_backAt a_sorted a_parts m_seed1 m_darkNow), (cAI g a_tape 900 d_tape), (cAI g a_letters 8 d_letters2_25)] [(cAI g a_fresh 311 d_fresh)] [1, 2, 3] [0] (m_numberX l g h0 1 z_42 m_thrown a_tape m_taped m_size m_at2_23 m_end2_24 m_token2_27 m_whole2_28 m_nameSize2_26 m_fault m_place m_trouble a_letters m_failed m_hasHouse a_r a_fresh a_st a_undone a_kept m_undos m_images a_from a_begin a_motor a_change a_startFrame a_changeFrame a_lostAt a_blackAt a_slips a_leftArc a_died a_arcs m_bestSum m_nearest m_nearestTown a_there a_backAt a_sorted a_parts m_seed1 m_darkNow d_tape d_letters2_25 (iv_w hv_m_size (by decide) (by decide)) (iv_w iv_30 (by decide) (by decide)) (iv_w iv_31 (by decide) (by decide)) (iv_w iv_22 (by decide) (by decide)) hk_35) dX11_seenLine_93 mw535 mw536 mw537 mw5 mw538 rfl 11 rfl rfl 0 _ rfl yk_yX11_number_2 rfl (Nat.le_of_ble_eq_true rfl) (Nat.le_of_ble_eq_true rfl) (Nat.le_of_ble_eq_true rfl) (Nat.le_of_ble_eq_true rfl) (Nat.le_of_ble_eq_true rfl) rfl rfl (by decide) rfl (by decide) (by decide) ?_
          intro r_54 w zq
          refine exE9 zq ?_
          clear zq
          intro m_at2_45 m_end2_46 m_failed2_47 m_fault2_48 d_letters2_49 m_nameSize2_50 m_place2_51 m_token2_52 m_whole2_53 iv_55 zq
          refine exA6 zq ?_
          clear zq
          intro iv_56 iv_57 hq_58 hq_59 hq_60 hk_61 zq
          subst zq
          refine k_ws [(cAI g a_fresh 311 d_fresh), (cO11_i1r1i10r1i2r5i2r12i3r4i2 h0 m_thrown a_tape m_taped m_size m_at2_45 m_end2_46 m_token2_52 m_whole2_53 m_nameSize2_50 m_fault2_48 m_place2_51 m_trouble a_letters m_failed2_47 m_hasHouse a_r a_fresh a_st a_undone a_kept m_undos m_images a_from a_begin a_motor a_change a_startFrame a_changeFrame a_lostAt a_blackAt a_slips a_leftArc a_died a_arcs m_bestSum m_nearest m_nearestTown a_there a_backAt a_sorted a_parts m_seed1 m_darkNow), (cAI g a_tape 900 d_tape), (cAI g a_letters 8 d_letters2_49)] rfl ?_
          have e_62 : (1 : Int32).toInt = 1 := by decide
          have iv_63 : IV r_54 1 7 := by have := (show IV 1 1 1 from (by decide)); have := iv_44; rw [IV]; omega
          refine k_iast [(cAI g a_fresh 311 (upd d_fresh (z_39 : Int32).toNatClampNeg r_54)), (cO11_i1r1i10r1i2r5i2r12i3r4i2 h0 m_thrown a_tape m_taped m_size m_at2_45 m_end2_46 m_token2_52 m_whole2_53 m_nameSize2_50 m_fault2_48 m_place2_51 m_trouble a_letters m_failed2_47 m_hasHouse a_r a_fresh a_st a_undone a_kept m_undos m_images a_from a_begin a_motor a_change a_startFrame a_changeFrame a_lostAt a_blackAt a_slips a_leftArc a_died a_arcs m_bestSum m_nearest m_nearestTown a_there a_backAt a_sorted a_parts m_seed1 m_darkNow), (cAI g a_tape 900 d_tape), (cAI g a_letters 8 d_letters2_49)] X dX11_seenLine_96 0 rfl (iv_in iv_41 (by decide) (by decide)) rfl ?_
          have i_66 : z_39.toInt = 137 + 3 * z_1.toInt := by omega
          refine (fun hg : ∀ fa_64 : Nat → Int32, fa_64 = upd d_fresh (z_39 : Int32).toNatClampNeg r_54 → RInv fa_64 → K16 d_fresh fa_64 → Wk p l e _ s m args below meth c _ A g _ _ _ [(cAI g a_fresh 311 fa_64), (cO11_i1r1i10r1i2r5i2r12i3r4i2 h0 m_thrown a_tape m_taped m_size m_at2_45 m_end2_46 m_token2_52 m_whole2_53 m_nameSize2_50 m_fault2_48 m_place2_51 m_trouble a_letters m_failed2_47 m_hasHouse a_r a_fresh a_st a_undone a_kept m_undos m_images a_from a_begin a_motor a_change a_startFrame a_changeFrame a_lostAt a_blackAt a_slips a_leftArc a_died a_arcs m_bestSum m_nearest m_nearestTown a_there a_backAt a_sorted a_parts m_seed1 m_darkNow), (cAI g a_tape 900 d_tape), (cAI g a_letters 8 d_letters2_49)] _ _ _ => hg _ rfl (w_rb_137_3 hp_d_fresh i_66 (iv_w iv_5 (by decide) (by decide)) (iv_w iv_63 (by decide) (by decide))) (k16_u (z := z_39) (by have := iv_41; omega))) (fun fa_64 eq_68 hR_65 hk_67 => ?_)
          have ek_69 : z_1 = fa_64 (13 : Int32).toNatClampNeg := ez_1.trans (hk_67 _ (by decide)).symm
          have ek_70 : z_6 = fa_64 (15 : Int32).toNatClampNeg := ez_6.trans (hk_67 _ (by decide)).symm
          have ek_71 : z_16 = fa_64 (12 : Int32).toNatClampNeg := ez_16.trans (hk_67 _ (by decide)).symm
          have hT_72 : TRI fa_64 := by have := iv_41; exact tri_z (z := z_39) eq_68 hr_0 hp_d_fresh (by omega) (by omega) (by omega) (by omega) (by omega)
          refine k_aload_n X dX11_seenLine_97 1 rfl ?_
          refine k_get (ci := 11) X inlX11 rfl 16 (by decide) dX11_seenLine_98 mw171 1 rfl rfl ?_
          refine k_iload_n X dX11_seenLine_101 0 rfl ?_
          refine k_iconst (v := 1) X dX11_seenLine_102 (by decide) ?_
          refine k_iadd X dX11_seenLine_103 ?_
          refine k_nm (fun z_73 ez_73 => ?_)
          have i_74 : z_73.toInt = z_39.toInt + 1 := in_add ez_73 iv_41 (show IV 1 1 1 from (by decide)) (by decide) (by decide)
          have iv_75 : IV z_73 138 153 := iz1 i_74 iv_41 (by decide) (by decide)
          refine k_aload_n X dX11_seenLine_104 1 rfl ?_
          refine k_ldcwS (tx := "black") X dX11_seenLine_105 (by decide +kernel) (fun sr_76 hsr_76 => ?_)
          refine k_iconst (v := 0) X dX11_seenLine_108 (by decide) ?_
          refine k_sipush (v := 9999) X dX11_seenLine_109 (by decide) ?_
          refine k_callVI (n := 3) (As := [.ref sr_76, .int 0, .int 9999]) (st := [.int z_73, .ref a_fresh]) X [(cO11_i1r1i10r1i2r5i2r12i3r4i2 h0 m_thrown a_tape m_taped m_size m_at2_45 m_end2_46 m_token2_52 m_whole2_53 m_nameSize2_50 m_fault2_48 m_place2_51 m_trouble a_letters m_failed2_47 m_hasHouse a_r a_fresh a_st a_undone a_kept m_undos m_images a_from a_begin a_motor a_change a_startFrame a_changeFrame a_lostAt a_blackAt a_slips a_leftArc a_died a_arcs m_bestSum m_nearest m_nearestTown a_there a_backAt a_sorted a_parts m_seed1 m_darkNow), (cAI g a_tape 900 d_tape), (cAI g a_letters 8 d_letters2_49)] [(cAI g a_fresh 311 fa_64)] [1, 2, 3] [0] (m_afterX l g h0 sr_76 0 9999 m_thrown a_tape m_taped m_size m_at2_45 m_end2_46 m_token2_52 m_whole2_53 m_nameSize2_50 m_fault2_48 m_place2_51 m_trouble a_letters m_failed2_47 m_hasHouse a_r a_fresh a_st a_undone a_kept m_undos m_images a_from a_begin a_motor a_change a_startFrame a_changeFrame a_lostAt a_blackAt a_slips a_leftArc a_died a_arcs m_bestSum m_nearest m_nearestTown a_there a_backAt a_sorted a_parts m_seed1 m_darkNow d_tape d_letters2_49 ("black") (iv_w hv_m_size (by decide) (by decide)) (iv_w iv_55 (by decide) (by decide)) (iv_w iv_57 (by decide) (by decide)) (iv_w iv_56 (by decide) (by decide)) hsr_76 hk_61) dX11_seenLine_112 mw523 mw524 mw525 mw5 mw526 rfl 11 rfl rfl 0 _ rfl yk_yX11_after_3 rfl (Nat.le_of_ble_eq_true rfl) (Nat.le_of_ble_eq_true rfl) (Nat.le_of_ble_eq_true rfl) (Nat.le_of_ble_eq_true rfl) (Nat.le_of_ble_eq_true rfl) rfl rfl (by decide) rfl (by decide) (by decide) ?_
          intro r_86 w zq
          refine exE9 zq ?_
          clear zq
          intro m_at2_77 m_end2_78 m_failed2_79 m_fault2_80 d_letters2_81 m_nameSize2_82 m_place2_83 m_token2_84 m_whole2_85 iv_87 zq
          refine exA6 zq ?_
          clear zq
          intro iv_88 iv_89 hq_90 hq_91 hq_92 hk_93 zq
          subst zq
          refine k_ws [(cAI g a_fresh 311 fa_64), (cO11_i1r1i10r1i2r5i2r12i3r4i2 h0 m_thrown a_tape m_taped m_size m_at2_77 m_end2_78 m_token2_84 m_whole2_85 m_nameSize2_82 m_fault2_80 m_place2_83 m_trouble a_letters m_failed2_79 m_hasHouse a_r a_fresh a_st a_undone a_kept m_undos m_images a_from a_begin a_motor a_change a_startFrame a_changeFrame a_lostAt a_blackAt a_slips a_leftArc a_died a_arcs m_bestSum m_nearest m_nearestTown a_there a_backAt a_sorted a_parts m_seed1 m_darkNow), (cAI g a_tape 900 d_tape), (cAI g a_letters 8 d_letters2_81)] rfl ?_
          have e_94 : (0 : Int32).toInt = 0 := by decide
          have e_95 : (9999 : Int32).toInt = 9999 := by decide
          have iv_96 : IV r_86 0 9999 := by have := (show IV 0 0 0 from (by decide)); have := (show IV 9999 9999 9999 from (by decide)); rw [IV]; omega
          refine k_iast [(cAI g a_fresh 311 (upd fa_64 (z_73 : Int32).toNatClampNeg r_86)), (cO11_i1r1i10r1i2r5i2r12i3r4i2 h0 m_thrown a_tape m_taped m_size m_at2_77 m_end2_78 m_token2_84 m_whole2_85 m_nameSize2_82 m_fault2_80 m_place2_83 m_trouble a_letters m_failed2_79 m_hasHouse a_r a_fresh a_st a_undone a_kept m_undos m_images a_from a_begin a_motor a_change a_startFrame a_changeFrame a_lostAt a_blackAt a_slips a_leftArc a_died a_arcs m_bestSum m_nearest m_nearestTown a_there a_backAt a_sorted a_parts m_seed1 m_darkNow), (cAI g a_tape 900 d_tape), (cAI g a_letters 8 d_letters2_81)] X dX11_seenLine_115 0 rfl (iv_in iv_75 (by decide) (by decide)) rfl ?_
          have i_99 : z_73.toInt = 138 + 3 * z_1.toInt := by omega
          refine (fun hg : ∀ fa_97 : Nat → Int32, fa_97 = upd fa_64 (z_73 : Int32).toNatClampNeg r_86 → RInv fa_97 → K16 fa_64 fa_97 → Wk p l e _ s m args below meth c _ A g _ _ _ [(cAI g a_fresh 311 fa_97), (cO11_i1r1i10r1i2r5i2r12i3r4i2 h0 m_thrown a_tape m_taped m_size m_at2_77 m_end2_78 m_token2_84 m_whole2_85 m_nameSize2_82 m_fault2_80 m_place2_83 m_trouble a_letters m_failed2_79 m_hasHouse a_r a_fresh a_st a_undone a_kept m_undos m_images a_from a_begin a_motor a_change a_startFrame a_changeFrame a_lostAt a_blackAt a_slips a_leftArc a_died a_arcs m_bestSum m_nearest m_nearestTown a_there a_backAt a_sorted a_parts m_seed1 m_darkNow), (cAI g a_tape 900 d_tape), (cAI g a_letters 8 d_letters2_81)] _ _ _ => hg _ rfl (w_fr_138_3 hR_65 i_99 (iv_w iv_5 (by decide) (by decide))) (k16_u (z := z_73) (by have := iv_75; omega))) (fun fa_97 eq_101 hR_98 hk_100 => ?_)
          have ek_102 : z_1 = fa_97 (13 : Int32).toNatClampNeg := ek_69.trans (hk_100 _ (by decide)).symm
          have ek_103 : z_6 = fa_97 (15 : Int32).toNatClampNeg := ek_70.trans (hk_100 _ (by decide)).symm
          have ek_104 : z_16 = fa_97 (12 : Int32).toNatClampNeg := ek_71.trans (hk_100 _ (by decide)).symm
          have hT_105 : TRI fa_97 := by have := iv_75; exact tri_z (z := z_73) eq_101 hT_72 hR_65 (by omega) (by omega) (by omega) (by omega) (by omega)
          refine k_aload_n X dX11_seenLine_116 1 rfl ?_
          refine k_get (ci := 11) X inlX11 rfl 16 (by decide) dX11_seenLine_117 mw171 1 rfl rfl ?_
          refine k_iload_n X dX11_seenLine_120 0 rfl ?_
          refine k_iconst (v := 2) X dX11_seenLine_121 (by decide) ?_
          refine k_iadd X dX11_seenLine_122 ?_
          refine k_nm (fun z_106 ez_106 => ?_)
          have i_107 : z_106.toInt = z_39.toInt + 2 := in_add ez_106 iv_41 (show IV 2 2 2 from (by decide)) (by decide) (by decide)
          have iv_108 : IV z_106 139 154 := iz1 i_107 iv_41 (by decide) (by decide)
          refine k_aload_n X dX11_seenLine_123 1 rfl ?_
          refine k_ldcwS (tx := "lost") X dX11_seenLine_124 (by decide +kernel) (fun sr_109 hsr_109 => ?_)
          refine k_iconst (v := 0) X dX11_seenLine_127 (by decide) ?_
          refine k_sipush (v := 9999) X dX11_seenLine_128 (by decide) ?_
          refine k_callVI (n := 3) (As := [.ref sr_109, .int 0, .int 9999]) (st := [.int z_106, .ref a_fresh]) X [(cO11_i1r1i10r1i2r5i2r12i3r4i2 h0 m_thrown a_tape m_taped m_size m_at2_77 m_end2_78 m_token2_84 m_whole2_85 m_nameSize2_82 m_fault2_80 m_place2_83 m_trouble a_letters m_failed2_79 m_hasHouse a_r a_fresh a_st a_undone a_kept m_undos m_images a_from a_begin a_motor a_change a_startFrame a_changeFrame a_lostAt a_blackAt a_slips a_leftArc a_died a_arcs m_bestSum m_nearest m_nearestTown a_there a_backAt a_sorted a_parts m_seed1 m_darkNow), (cAI g a_tape 900 d_tape), (cAI g a_letters 8 d_letters2_81)] [(cAI g a_fresh 311 fa_97)] [1, 2, 3] [0] (m_afterX l g h0 sr_109 0 9999 m_thrown a_tape m_taped m_size m_at2_77 m_end2_78 m_token2_84 m_whole2_85 m_nameSize2_82 m_fault2_80 m_place2_83 m_trouble a_letters m_failed2_79 m_hasHouse a_r a_fresh a_st a_undone a_kept m_undos m_images a_from a_begin a_motor a_change a_startFrame a_changeFrame a_lostAt a_blackAt a_slips a_leftArc a_died a_arcs m_bestSum m_nearest m_nearestTown a_there a_backAt a_sorted a_parts m_seed1 m_darkNow d_tape d_letters2_81 ("lost") (iv_w hv_m_size (by decide) (by decide)) (iv_w iv_87 (by decide) (by decide)) (iv_w iv_89 (by decide) (by decide)) (iv_w iv_88 (by decide) (by decide)) hsr_109 hk_93) dX11_seenLine_131 mw523 mw524 mw525 mw5 mw526 rfl 11 rfl rfl 0 _ rfl yk_yX11_after_3 rfl (Nat.le_of_ble_eq_true rfl) (Nat.le_of_ble_eq_true rfl) (Nat.le_of_ble_eq_true rfl) (Nat.le_of_ble_eq_true rfl) (Nat.le_of_ble_eq_true rfl) rfl rfl (by decide) rfl (by decide) (by decide) ?_
          intro r_119 w zq
          refine exE9 zq ?_
          clear zq
          intro m_at2_110 m_end2_111 m_failed2_112 m_fault2_113 d_letters2_114 m_nameSize2_115 m_place2_116 m_token2_117 m_whole2_118 iv_120 zq
          refine exA6 zq ?_
          clear zq
          intro iv_121 iv_122 hq_123 hq_124 hq_125 hk_126 zq
          subst zq
          refine k_ws [(cAI g a_fresh 311 fa_97), (cO11_i1r1i10r1i2r5i2r12i3r4i2 h0 m_thrown a_tape m_taped m_size m_at2_110 m_end2_111 m_token2_117 m_whole2_118 m_nameSize2_115 m_fault2_113 m_place2_116 m_trouble a_letters m_failed2_112 m_hasHouse a_r a_fresh a_st a_undone a_kept m_undos m_images a_from a_begin a_motor a_change a_startFrame a_changeFrame a_lostAt a_blackAt a_slips a_leftArc a_died a_arcs m_bestSum m_nearest m_nearestTown a_there a_backAt a_sorted a_parts m_seed1 m_darkNow), (cAI g a_tape 900 d_tape), (cAI g a_letters 8 d_letters2_114)] rfl ?_
          have e_127 : (0 : Int32).toInt = 0 := by decide
          have e_128 : (9999 : Int32).toInt = 9999 := by decide
          have iv_129 : IV r_119 0 9999 := by have := (show IV 0 0 0 from (by decide)); have := (show IV 9999 9999 9999 from (by decide)); rw [IV]; omega
          refine k_iast [(cAI g a_fresh 311 (upd fa_97 (z_106 : Int32).toNatClampNeg r_119)), (cO11_i1r1i10r1i2r5i2r12i3r4i2 h0 m_thrown a_tape m_taped m_size m_at2_110 m_end2_111 m_token2_117 m_whole2_118 m_nameSize2_115 m_fault2_113 m_place2_116 m_trouble a_letters m_failed2_112 m_hasHouse a_r a_fresh a_st a_undone a_kept m_undos m_images a_from a_begin a_motor a_change a_startFrame a_changeFrame a_lostAt a_blackAt a_slips a_leftArc a_died a_arcs m_bestSum m_nearest m_nearestTown a_there a_backAt a_sorted a_parts m_seed1 m_darkNow), (cAI g a_tape 900 d_tape), (cAI g a_letters 8 d_letters2_114)] X dX11_seenLine_134 0 rfl (iv_in iv_108 (by decide) (by decide)) rfl ?_
          have i_132 : z_106.toInt = 139 + 3 * z_1.toInt := by omega
          refine (fun hg : ∀ fa_130 : Nat → Int32, fa_130 = upd fa_97 (z_106 : Int32).toNatClampNeg r_119 → RInv fa_130 → K16 fa_97 fa_130 → Wk p l e _ s m args below meth c _ A g _ _ _ [(cAI g a_fresh 311 fa_130), (cO11_i1r1i10r1i2r5i2r12i3r4i2 h0 m_thrown a_tape m_taped m_size m_at2_110 m_end2_111 m_token2_117 m_whole2_118 m_nameSize2_115 m_fault2_113 m_place2_116 m_trouble a_letters m_failed2_112 m_hasHouse a_r a_fresh a_st a_undone a_kept m_undos m_images a_from a_begin a_motor a_change a_startFrame a_changeFrame a_lostAt a_blackAt a_slips a_leftArc a_died a_arcs m_bestSum m_nearest m_nearestTown a_there a_backAt a_sorted a_parts m_seed1 m_darkNow), (cAI g a_tape 900 d_tape), (cAI g a_letters 8 d_letters2_114)] _ _ _ => hg _ rfl (w_fr_139_3 hR_98 i_132 (iv_w iv_5 (by decide) (by decide))) (k16_u (z := z_106) (by have := iv_108; omega))) (fun fa_130 eq_134 hR_131 hk_133 => ?_)
          have ek_135 : z_1 = fa_130 (13 : Int32).toNatClampNeg := ek_102.trans (hk_133 _ (by decide)).symm
          have ek_136 : z_6 = fa_130 (15 : Int32).toNatClampNeg := ek_103.trans (hk_133 _ (by decide)).symm
          have ek_137 : z_16 = fa_130 (12 : Int32).toNatClampNeg := ek_104.trans (hk_133 _ (by decide)).symm
          have hT_138 : TRI fa_130 := by have := iv_108; exact tri_z (z := z_106) eq_134 hT_105 hR_98 (by omega) (by omega) (by omega) (by omega) (by omega)
          refine k_aload_n X dX11_seenLine_135 1 rfl ?_
          refine k_get (ci := 11) X inlX11 rfl 13 (by decide) dX11_seenLine_136 mw469 1 rfl rfl ?_
          refine k_if_ne 153 X dX11_seenLine_139 (by decide) (fun h_139 => ?_) (fun h_139 => ?_)
          · skip
            have iv_140 : IV m_failed2_112 1 1 := iv_neL h_139 iv_121 (show IV 0 0 0 from (by decide)) (by decide)
            exact k_vret X hr dX11_seenLine_153 (Nat.le_of_ble_eq_true rfl) (Nat.le_of_ble_eq_true rfl) [1, 2, 3, 0] (by decide) rfl rfl ⟨m_at2_110, m_end2_111, m_failed2_112, m_fault2_113, fa_130, d_letters2_114, m_nameSize2_115, m_place2_116, m_token2_117, m_whole2_118, (iv_w iv_120 (by decide) (by decide)), (iv_w iv_140 (by decide) (by decide)), (iv_w iv_122 (by decide) (by decide)), hR_131, (by omega), hT_138, ⟨z_1, ez_1, (Or.inl ⟨h_4, ⟨z_6, ez_6, (Or.inr ⟨h_7, ⟨z_16, ez_16, (Or.inl ⟨h_19, (Or.inl ⟨h_21, ⟨m_at2_23, m_end2_24, d_letters2_25, m_nameSize2_26, m_token2_27, m_whole2_28, hq_34, ⟨z_36, ez_36, ⟨z_39, ez_39, ⟨z_42, ez_42, ⟨m_at2_45, m_end2_46, m_failed2_47, m_fault2_48, d_letters2_49, m_nameSize2_50, m_place2_51, m_token2_52, m_whole2_53, r_54, hq_60, ⟨fa_64, eq_68, ⟨z_73, ez_73, ⟨m_at2_77, m_end2_78, m_failed2_79, m_fault2_80, d_letters2_81, m_nameSize2_82, m_place2_83, m_token2_84, m_whole2_85, r_86, hq_92, ⟨fa_97, eq_101, ⟨z_106, ez_106, ⟨m_at2_110, m_end2_111, m_failed2_112, m_fault2_113, d_letters2_114, m_nameSize2_115, m_place2_116, m_token2_117, m_whole2_118, r_119, hq_125, ⟨fa_130, eq_134, (Or.inl ⟨h_139, ⟨rfl, rfl, rfl, rfl, rfl, rfl, rfl, rfl, rfl, rfl⟩⟩)⟩⟩⟩⟩⟩⟩⟩⟩⟩⟩⟩⟩⟩)⟩)⟩⟩)⟩⟩)⟩, hk_126, rfl⟩
          · skip
            have iv_141 : IV m_failed2_112 0 0 := iv_meet iv_121 (iv_e h_139 (show IV 0 0 0 from (by decide))) (by decide) (by decide)
            refine k_aload_n X dX11_seenLine_142 1 rfl ?_
            refine k_get (ci := 11) X inlX11 rfl 16 (by decide) dX11_seenLine_143 mw171 1 rfl rfl ?_
            refine k_bipush (v := 13) X dX11_seenLine_146 (by decide) ?_
            refine k_dup2 X dX11_seenLine_148 rfl rfl ?_
            refine k_iald X dX11_seenLine_149 0 rfl (by unfold vp_in; decide) ?_
            refine k_to z_1 ek_135.symm ?_
            refine k_iconst (v := 1) X dX11_seenLine_150 (by decide) ?_
            refine k_iadd X dX11_seenLine_151 ?_
            refine k_nm (fun z_142 ez_142 => ?_)
            have i_143 : z_142.toInt = z_1.toInt + 1 := in_add ez_142 iv_5 (show IV 1 1 1 from (by decide)) (by decide) (by decide)
            have iv_144 : IV z_142 1 6 := iz1 i_143 iv_5 (by decide) (by decide)
            refine k_iast [(cAI g a_fresh 311 (upd fa_130 (13 : Int32).toNatClampNeg z_142)), (cO11_i1r1i10r1i2r5i2r12i3r4i2 h0 m_thrown a_tape m_taped m_size m_at2_110 m_end2_111 m_token2_117 m_whole2_118 m_nameSize2_115 m_fault2_113 m_place2_116 m_trouble a_letters m_failed2_112 m_hasHouse a_r a_fresh a_st a_undone a_kept m_undos m_images a_from a_begin a_motor a_change a_startFrame a_changeFrame a_lostAt a_blackAt a_slips a_leftArc a_died a_arcs m_bestSum m_nearest m_nearestTown a_there a_backAt a_sorted a_parts m_seed1 m_darkNow), (cAI g a_tape 900 d_tape), (cAI g a_letters 8 d_letters2_114)] X dX11_seenLine_152 0 rfl (by unfold vp_in; decide) rfl ?_
            refine (fun hg : ∀ fa_145 : Nat → Int32, fa_145 = upd fa_130 (13 : Int32).toNatClampNeg z_142 → RInv fa_145 → Wk p l e _ s m args below meth c _ A g _ _ _ [(cAI g a_fresh 311 fa_145), (cO11_i1r1i10r1i2r5i2r12i3r4i2 h0 m_thrown a_tape m_taped m_size m_at2_110 m_end2_111 m_token2_117 m_whole2_118 m_nameSize2_115 m_fault2_113 m_place2_116 m_trouble a_letters m_failed2_112 m_hasHouse a_r a_fresh a_st a_undone a_kept m_undos m_images a_from a_begin a_motor a_change a_startFrame a_changeFrame a_lostAt a_blackAt a_slips a_leftArc a_died a_arcs m_bestSum m_nearest m_nearestTown a_there a_backAt a_sorted a_parts m_seed1 m_darkNow), (cAI g a_tape 900 d_tape), (cAI g a_letters 8 d_letters2_114)] _ _ _ => hg _ rfl (w_rb_13 hR_131 (iv_w iv_144 (by decide) (by decide)))) (fun fa_145 eq_148 hR_146 => ?_)
            have hT_149 : TRI fa_145 := by rw [eq_148]; exact tri_n (z := 13) hT_138 hR_131 (by decide) (by decide) (by decide) (by decide)
            exact k_vret X hr dX11_seenLine_153 (Nat.le_of_ble_eq_true rfl) (Nat.le_of_ble_eq_true rfl) [1, 2, 3, 0] (by decide) rfl rfl ⟨m_at2_110, m_end2_111, m_failed2_112, m_fault2_113, fa_145, d_letters2_114, m_nameSize2_115, m_place2_116, m_token2_117, m_whole2_118, (iv_w iv_120 (by decide) (by decide)), (iv_w iv_141 (by decide) (by decide)), (iv_w iv_122 (by decide) (by decide)), hR_146, (by omega), hT_149, ⟨z_1, ez_1, (Or.inl ⟨h_4, ⟨z_6, ez_6, (Or.inr ⟨h_7, ⟨z_16, ez_16, (Or.inl ⟨h_19, (Or.inl ⟨h_21, ⟨m_at2_23, m_end2_24, d_letters2_25, m_nameSize2_26, m_token2_27, m_whole2_28, hq_34, ⟨z_36, ez_36, ⟨z_39, ez_39, ⟨z_42, ez_42, ⟨m_at2_45, m_end2_46, m_failed2_47, m_fault2_48, d_letters2_49, m_nameSize2_50, m_place2_51, m_token2_52, m_whole2_53, r_54, hq_60, ⟨fa_64, eq_68, ⟨z_73, ez_73, ⟨m_at2_77, m_end2_78, m_failed2_79, m_fault2_80, d_letters2_81, m_nameSize2_82, m_place2_83, m_token2_84, m_whole2_85, r_86, hq_92, ⟨fa_97, eq_101, ⟨z_106, ez_106, ⟨m_at2_110, m_end2_111, m_failed2_112, m_fault2_113, d_letters2_114, m_nameSize2_115, m_place2_116, m_token2_117, m_whole2_118, r_119, hq_125, ⟨fa_130, eq_134, (Or.inr ⟨h_139, ⟨z_142, ez_142, ⟨fa_145, eq_148, ⟨rfl, rfl, rfl, rfl, rfl, rfl, rfl, rfl, rfl, rfl⟩⟩⟩⟩)⟩⟩⟩⟩⟩⟩⟩⟩⟩⟩⟩⟩⟩)⟩)⟩⟩)⟩⟩)⟩, hk_126, rfl⟩
        · skip
          have iv_150 : IV m_failed 1 1 := iv_neL h_21 hv_m_failed (show IV 0 0 0 from (by decide)) (by decide)
          exact k_vret X hr dX11_seenLine_58 (Nat.le_of_ble_eq_true rfl) (Nat.le_of_ble_eq_true rfl) [0, 1, 2, 3] (by decide) rfl rfl ⟨m_at, m_end, m_failed, m_fault, d_fresh, d_letters, m_nameSize, m_place, m_token, m_whole, (iv_w hv_m_end (by decide) (by decide)), (iv_w iv_150 (by decide) (by decide)), (iv_w hv_m_nameSize (by decide) (by decide)), hp_d_fresh, (by omega), hr_0, ⟨z_1, ez_1, (Or.inl ⟨h_4, ⟨z_6, ez_6, (Or.inr ⟨h_7, ⟨z_16, ez_16, (Or.inl ⟨h_19, (Or.inr ⟨h_21, ⟨rfl, rfl, rfl, rfl, rfl, rfl, rfl, rfl, rfl, rfl⟩⟩)⟩)⟩⟩)⟩⟩)⟩, hc_0, rfl⟩
      · skip
        have iv_151 : IV z_16 0 0 := iv_meet iv_18 (iv_e h_19 (show IV 0 0 0 from (by decide))) (by decide) (by decide)
        refine k_aload_n X dX11_seenLine_41 0 rfl ?_
        refine k_bipush (v := 6) X dX11_seenLine_42 (by decide) ?_
        refine k_aload_n X dX11_seenLine_44 0 rfl ?_
        refine k_get (ci := 11) X inlX11 rfl 4 (by decide) dX11_seenLine_45 mw473 0 rfl rfl ?_
        refine k_callVV (n := 2) (As := [.int 6, .int m_at]) (st := []) X [(cO11_i1r1i10r1i2r5i2r12i3r4i2 h0 m_thrown a_tape m_taped m_size m_at m_end m_token m_whole m_nameSize m_fault m_place m_trouble a_letters m_failed m_hasHouse a_r a_fresh a_st a_undone a_kept m_undos m_images a_from a_begin a_motor a_change a_startFrame a_changeFrame a_lostAt a_blackAt a_slips a_leftArc a_died a_arcs m_bestSum m_nearest m_nearestTown a_there a_backAt a_sorted a_parts m_seed1 m_darkNow)] [(cAI g a_tape 900 d_tape), (cAI g a_letters 8 d_letters), (cAI g a_fresh 311 d_fresh)] [0] [1, 2, 3] (m_badX l g h0 6 m_at m_thrown a_tape m_taped m_size m_at m_end m_token m_whole m_nameSize m_fault m_place m_trouble a_letters m_failed m_hasHouse a_r a_fresh a_st a_undone a_kept m_undos m_images a_from a_begin a_motor a_change a_startFrame a_changeFrame a_lostAt a_blackAt a_slips a_leftArc a_died a_arcs m_bestSum m_nearest m_nearestTown a_there a_backAt a_sorted a_parts m_seed1 m_darkNow (iv_w hv_m_failed (by decide) (by decide))) dX11_seenLine_48 mw519 mw520 mw521 mw5 mw522 rfl 11 rfl rfl 0 _ rfl yk_yX11_bad_2 rfl (Nat.le_of_ble_eq_true rfl) (Nat.le_of_ble_eq_true rfl) (Nat.le_of_ble_eq_true rfl) (Nat.le_of_ble_eq_true rfl) (Nat.le_of_ble_eq_true rfl) rfl rfl (by decide) rfl (by decide) (by decide) ?_
        rintro w ⟨m_failed2_152, m_fault2_153, m_place2_154, iv_156, hq_157, rfl⟩
        refine k_ws [(cAI g a_tape 900 d_tape), (cAI g a_letters 8 d_letters), (cAI g a_fresh 311 d_fresh), (cO11_i1r1i10r1i2r5i2r12i3r4i2 h0 m_thrown a_tape m_taped m_size m_at m_end m_token m_whole m_nameSize m_fault2_153 m_place2_154 m_trouble a_letters m_failed2_152 m_hasHouse a_r a_fresh a_st a_undone a_kept m_undos m_images a_from a_begin a_motor a_change a_startFrame a_changeFrame a_lostAt a_blackAt a_slips a_leftArc a_died a_arcs m_bestSum m_nearest m_nearestTown a_there a_backAt a_sorted a_parts m_seed1 m_darkNow)] rfl ?_
        refine k_aload_n X dX11_seenLine_51 0 rfl ?_
        refine k_get (ci := 11) X inlX11 rfl 13 (by decide) dX11_seenLine_52 mw469 3 rfl rfl ?_
        refine k_if_eq 59 X dX11_seenLine_55 (by decide) (fun h_158 => (iv_eqN h_158 iv_156 (show IV 0 0 0 from (by decide)) (by decide)).elim) (fun h_158 => ?_)
        exact k_vret X hr dX11_seenLine_58 (Nat.le_of_ble_eq_true rfl) (Nat.le_of_ble_eq_true rfl) [3, 0, 1, 2] (by decide) rfl rfl ⟨m_at, m_end, m_failed2_152, m_fault2_153, d_fresh, d_letters, m_nameSize, m_place2_154, m_token, m_whole, (iv_w hv_m_end (by decide) (by decide)), (iv_w iv_156 (by decide) (by decide)), (iv_w hv_m_nameSize (by decide) (by decide)), hp_d_fresh, (by omega), hr_0, ⟨z_1, ez_1, (Or.inl ⟨h_4, ⟨z_6, ez_6, (Or.inr ⟨h_7, ⟨z_16, ez_16, (Or.inr ⟨h_19, ⟨m_failed2_152, m_fault2_153, m_place2_154, hq_157, ⟨rfl, rfl, rfl, rfl, rfl, rfl, rfl, rfl, rfl, rfl⟩⟩⟩)⟩⟩)⟩⟩)⟩, hc_0, rfl⟩
  · skip
    have iv_159 : IV z_1 6 6 := iv_meet iv_3 (iv_e h_4 (show IV 6 6 6 from (by decide))) (by decide) (by decide)
    refine k_aload_n X dX11_seenLine_12 0 rfl ?_
    refine k_iconst (v := 5) X dX11_seenLine_13 (by decide) ?_
    refine k_aload_n X dX11_seenLine_14 0 rfl ?_
    refine k_get (ci := 11) X inlX11 rfl 4 (by decide) dX11_seenLine_15 mw473 0 rfl rfl ?_
    refine k_callVV (n := 2) (As := [.int 5, .int m_at]) (st := []) X [(cO11_i1r1i10r1i2r5i2r12i3r4i2 h0 m_thrown a_tape m_taped m_size m_at m_end m_token m_whole m_nameSize m_fault m_place m_trouble a_letters m_failed m_hasHouse a_r a_fresh a_st a_undone a_kept m_undos m_images a_from a_begin a_motor a_change a_startFrame a_changeFrame a_lostAt a_blackAt a_slips a_leftArc a_died a_arcs m_bestSum m_nearest m_nearestTown a_there a_backAt a_sorted a_parts m_seed1 m_darkNow)] [(cAI g a_tape 900 d_tape), (cAI g a_letters 8 d_letters), (cAI g a_fresh 311 d_fresh)] [0] [1, 2, 3] (m_badX l g h0 5 m_at m_thrown a_tape m_taped m_size m_at m_end m_token m_whole m_nameSize m_fault m_place m_trouble a_letters m_failed m_hasHouse a_r a_fresh a_st a_undone a_kept m_undos m_images a_from a_begin a_motor a_change a_startFrame a_changeFrame a_lostAt a_blackAt a_slips a_leftArc a_died a_arcs m_bestSum m_nearest m_nearestTown a_there a_backAt a_sorted a_parts m_seed1 m_darkNow (iv_w hv_m_failed (by decide) (by decide))) dX11_seenLine_18 mw519 mw520 mw521 mw5 mw522 rfl 11 rfl rfl 0 _ rfl yk_yX11_bad_2 rfl (Nat.le_of_ble_eq_true rfl) (Nat.le_of_ble_eq_true rfl) (Nat.le_of_ble_eq_true rfl) (Nat.le_of_ble_eq_true rfl) (Nat.le_of_ble_eq_true rfl) rfl rfl (by decide) rfl (by decide) (by decide) ?_
    rintro w ⟨m_failed2_160, m_fault2_161, m_place2_162, iv_164, hq_165, rfl⟩
    refine k_ws [(cAI g a_tape 900 d_tape), (cAI g a_letters 8 d_letters), (cAI g a_fresh 311 d_fresh), (cO11_i1r1i10r1i2r5i2r12i3r4i2 h0 m_thrown a_tape m_taped m_size m_at m_end m_token m_whole m_nameSize m_fault2_161 m_place2_162 m_trouble a_letters m_failed2_160 m_hasHouse a_r a_fresh a_st a_undone a_kept m_undos m_images a_from a_begin a_motor a_change a_startFrame a_changeFrame a_lostAt a_blackAt a_slips a_leftArc a_died a_arcs m_bestSum m_nearest m_nearestTown a_there a_backAt a_sorted a_parts m_seed1 m_darkNow)] rfl ?_
    refine k_aload_n X dX11_seenLine_21 0 rfl ?_
    refine k_get (ci := 11) X inlX11 rfl 16 (by decide) dX11_seenLine_22 mw171 3 rfl rfl ?_
    refine k_bipush (v := 15) X dX11_seenLine_25 (by decide) ?_
    refine k_iald X dX11_seenLine_27 2 rfl (by unfold vp_in; decide) ?_
    refine k_nm (fun z_166 ez_166 => ?_)
    refine k_if_eq 41 X dX11_seenLine_28 (by decide) (fun h_167 => ?_) (fun h_167 => ?_)
    · skip
      have iv_168 : IV z_166 0 0 := iv_meet (iv_any z_166) (iv_e h_167 (show IV 0 0 0 from (by decide))) (by decide) (by decide)
      refine k_aload_n X dX11_seenLine_41 0 rfl ?_
      refine k_bipush (v := 6) X dX11_seenLine_42 (by decide) ?_
      refine k_aload_n X dX11_seenLine_44 0 rfl ?_
      refine k_get (ci := 11) X inlX11 rfl 4 (by decide) dX11_seenLine_45 mw473 3 rfl rfl ?_
      refine k_callVV (n := 2) (As := [.int 6, .int m_at]) (st := []) X [(cO11_i1r1i10r1i2r5i2r12i3r4i2 h0 m_thrown a_tape m_taped m_size m_at m_end m_token m_whole m_nameSize m_fault2_161 m_place2_162 m_trouble a_letters m_failed2_160 m_hasHouse a_r a_fresh a_st a_undone a_kept m_undos m_images a_from a_begin a_motor a_change a_startFrame a_changeFrame a_lostAt a_blackAt a_slips a_leftArc a_died a_arcs m_bestSum m_nearest m_nearestTown a_there a_backAt a_sorted a_parts m_seed1 m_darkNow)] [(cAI g a_tape 900 d_tape), (cAI g a_letters 8 d_letters), (cAI g a_fresh 311 d_fresh)] [3] [0, 1, 2] (m_badX l g h0 6 m_at m_thrown a_tape m_taped m_size m_at m_end m_token m_whole m_nameSize m_fault2_161 m_place2_162 m_trouble a_letters m_failed2_160 m_hasHouse a_r a_fresh a_st a_undone a_kept m_undos m_images a_from a_begin a_motor a_change a_startFrame a_changeFrame a_lostAt a_blackAt a_slips a_leftArc a_died a_arcs m_bestSum m_nearest m_nearestTown a_there a_backAt a_sorted a_parts m_seed1 m_darkNow (iv_w iv_164 (by decide) (by decide))) dX11_seenLine_48 mw519 mw520 mw521 mw5 mw522 rfl 11 rfl rfl 0 _ rfl yk_yX11_bad_2 rfl (Nat.le_of_ble_eq_true rfl) (Nat.le_of_ble_eq_true rfl) (Nat.le_of_ble_eq_true rfl) (Nat.le_of_ble_eq_true rfl) (Nat.le_of_ble_eq_true rfl) rfl rfl (by decide) rfl (by decide) (by decide) ?_
      rintro w ⟨m_failed2_169, m_fault2_170, m_place2_171, iv_173, hq_174, rfl⟩
      refine k_ws [(cAI g a_tape 900 d_tape), (cAI g a_letters 8 d_letters), (cAI g a_fresh 311 d_fresh), (cO11_i1r1i10r1i2r5i2r12i3r4i2 h0 m_thrown a_tape m_taped m_size m_at m_end m_token m_whole m_nameSize m_fault2_170 m_place2_171 m_trouble a_letters m_failed2_169 m_hasHouse a_r a_fresh a_st a_undone a_kept m_undos m_images a_from a_begin a_motor a_change a_startFrame a_changeFrame a_lostAt a_blackAt a_slips a_leftArc a_died a_arcs m_bestSum m_nearest m_nearestTown a_there a_backAt a_sorted a_parts m_seed1 m_darkNow)] rfl ?_
      refine k_aload_n X dX11_seenLine_51 0 rfl ?_
      refine k_get (ci := 11) X inlX11 rfl 13 (by decide) dX11_seenLine_52 mw469 3 rfl rfl ?_
      refine k_if_eq 59 X dX11_seenLine_55 (by decide) (fun h_175 => (iv_eqN h_175 iv_173 (show IV 0 0 0 from (by decide)) (by decide)).elim) (fun h_175 => ?_)
      exact k_vret X hr dX11_seenLine_58 (Nat.le_of_ble_eq_true rfl) (Nat.le_of_ble_eq_true rfl) [3, 0, 1, 2] (by decide) rfl rfl ⟨m_at, m_end, m_failed2_169, m_fault2_170, d_fresh, d_letters, m_nameSize, m_place2_171, m_token, m_whole, (iv_w hv_m_end (by decide) (by decide)), (iv_w iv_173 (by decide) (by decide)), (iv_w hv_m_nameSize (by decide) (by decide)), hp_d_fresh, (by omega), hr_0, ⟨z_1, ez_1, (Or.inr ⟨h_4, ⟨m_failed2_160, m_fault2_161, m_place2_162, hq_165, ⟨z_166, ez_166, (Or.inl ⟨h_167, ⟨m_failed2_169, m_fault2_170, m_place2_171, hq_174, ⟨rfl, rfl, rfl, rfl, rfl, rfl, rfl, rfl, rfl, rfl⟩⟩⟩)⟩⟩⟩)⟩, hc_0, rfl⟩
    · skip
      refine k_aload_n X dX11_seenLine_31 0 rfl ?_
      refine k_get (ci := 11) X inlX11 rfl 16 (by decide) dX11_seenLine_32 mw171 3 rfl rfl ?_
      refine k_bipush (v := 12) X dX11_seenLine_35 (by decide) ?_
      refine k_iald X dX11_seenLine_37 2 rfl (by unfold vp_in; decide) ?_
      refine k_nm (fun z_176 ez_176 => ?_)
      have i_177 : z_176.toInt = (d_fresh 12).toInt := by rw [ez_176]; rfl
      have iv_178 : IV z_176 0 8 := rb_12 ez_176 hp_d_fresh
      refine k_if_ne 51 X dX11_seenLine_38 (by decide) (fun h_179 => ?_) (fun h_179 => ?_)
      · skip
        have iv_180 : IV z_176 1 8 := iv_neL h_179 iv_178 (show IV 0 0 0 from (by decide)) (by decide)
        refine k_aload_n X dX11_seenLine_51 0 rfl ?_
        refine k_get (ci := 11) X inlX11 rfl 13 (by decide) dX11_seenLine_52 mw469 3 rfl rfl ?_
        refine k_if_eq 59 X dX11_seenLine_55 (by decide) (fun h_181 => (iv_eqN h_181 iv_164 (show IV 0 0 0 from (by decide)) (by decide)).elim) (fun h_181 => ?_)
        exact k_vret X hr dX11_seenLine_58 (Nat.le_of_ble_eq_true rfl) (Nat.le_of_ble_eq_true rfl) [3, 0, 1, 2] (by decide) rfl rfl ⟨m_at, m_end, m_failed2_160, m_fault2_161, d_fresh, d_letters, m_nameSize, m_place2_162, m_token, m_whole, (iv_w hv_m_end (by decide) (by decide)), (iv_w iv_164 (by decide) (by decide)), (iv_w hv_m_nameSize (by decide) (by decide)), hp_d_fresh, (by omega), hr_0, ⟨z_1, ez_1, (Or.inr ⟨h_4, ⟨m_failed2_160, m_fault2_161, m_place2_162, hq_165, ⟨z_166, ez_166, (Or.inr ⟨h_167, ⟨z_176, ez_176, (Or.inl ⟨h_179, ⟨rfl, rfl, rfl, rfl, rfl, rfl, rfl, rfl, rfl, rfl⟩⟩)⟩⟩)⟩⟩⟩)⟩, hc_0, rfl⟩
      · skip
        have iv_182 : IV z_176 0 0 := iv_meet iv_178 (iv_e h_179 (show IV 0 0 0 from (by decide))) (by decide) (by decide)
        refine k_aload_n X dX11_seenLine_41 0 rfl ?_
        refine k_bipush (v := 6) X dX11_seenLine_42 (by decide) ?_
        refine k_aload_n X dX11_seenLine_44 0 rfl ?_
        refine k_get (ci := 11) X inlX11 rfl 4 (by decide) dX11_seenLine_45 mw473 3 rfl rfl ?_
        refine k_callVV (n := 2) (As := [.int 6, .int m_at]) (st := []) X [(cO11_i1r1i10r1i2r5i2r12i3r4i2 h0 m_thrown a_tape m_taped m_size m_at m_end m_token m_whole m_nameSize m_fault2_161 m_place2_162 m_trouble a_letters m_failed2_160 m_hasHouse a_r a_fresh a_st a_undone a_kept m_undos m_images a_from a_begin a_motor a_change a_startFrame a_changeFrame a_lostAt a_blackAt a_slips a_leftArc a_died a_arcs m_bestSum m_nearest m_nearestTown a_there a_backAt a_sorted a_parts m_seed1 m_darkNow)] [(cAI g a_tape 900 d_tape), (cAI g a_letters 8 d_letters), (cAI g a_fresh 311 d_fresh)] [3] [0, 1, 2] (m_badX l g h0 6 m_at m_thrown a_tape m_taped m_size m_at m_end m_token m_whole m_nameSize m_fault2_161 m_place2_162 m_trouble a_letters m_failed2_160 m_hasHouse a_r a_fresh a_st a_undone a_kept m_undos m_images a_from a_begin a_motor a_change a_startFrame a_changeFrame a_lostAt a_blackAt a_slips a_leftArc a_died a_arcs m_bestSum m_nearest m_nearestTown a_there a_backAt a_sorted a_parts m_seed1 m_darkNow (iv_w iv_164 (by decide) (by decide))) dX11_seenLine_48 mw519 mw520 mw521 mw5 mw522 rfl 11 rfl rfl 0 _ rfl yk_yX11_bad_2 rfl (Nat.le_of_ble_eq_true rfl) (Nat.le_of_ble_eq_true rfl) (Nat.le_of_ble_eq_true rfl) (Nat.le_of_ble_eq_true rfl) (Nat.le_of_ble_eq_true rfl) rfl rfl (by decide) rfl (by decide) (by decide) ?_
        rintro w ⟨m_failed2_183, m_fault2_184, m_place2_185, iv_187, hq_188, rfl⟩
        refine k_ws [(cAI g a_tape 900 d_tape), (cAI g a_letters 8 d_letters), (cAI g a_fresh 311 d_fresh), (cO11_i1r1i10r1i2r5i2r12i3r4i2 h0 m_thrown a_tape m_taped m_size m_at m_end m_token m_whole m_nameSize m_fault2_184 m_place2_185 m_trouble a_letters m_failed2_183 m_hasHouse a_r a_fresh a_st a_undone a_kept m_undos m_images a_from a_begin a_motor a_change a_startFrame a_changeFrame a_lostAt a_blackAt a_slips a_leftArc a_died a_arcs m_bestSum m_nearest m_nearestTown a_there a_backAt a_sorted a_parts m_seed1 m_darkNow)] rfl ?_
        refine k_aload_n X dX11_seenLine_51 0 rfl ?_
        refine k_get (ci := 11) X inlX11 rfl 13 (by decide) dX11_seenLine_52 mw469 3 rfl rfl ?_
        refine k_if_eq 59 X dX11_seenLine_55 (by decide) (fun h_189 => (iv_eqN h_189 iv_187 (show IV 0 0 0 from (by decide)) (by decide)).elim) (fun h_189 => ?_)
        exact k_vret X hr dX11_seenLine_58 (Nat.le_of_ble_eq_true rfl) (Nat.le_of_ble_eq_true rfl) [3, 0, 1, 2] (by decide) rfl rfl ⟨m_at, m_end, m_failed2_183, m_fault2_184, d_fresh, d_letters, m_nameSize, m_place2_185, m_token, m_whole, (iv_w hv_m_end (by decide) (by decide)), (iv_w iv_187 (by decide) (by decide)), (iv_w hv_m_nameSize (by decide) (by decide)), hp_d_fresh, (by omega), hr_0, ⟨z_1, ez_1, (Or.inr ⟨h_4, ⟨m_failed2_160, m_fault2_161, m_place2_162, hq_165, ⟨z_166, ez_166, (Or.inr ⟨h_167, ⟨z_176, ez_176, (Or.inr ⟨h_179, ⟨m_failed2_183, m_fault2_184, m_place2_185, hq_188, ⟨rfl, rfl, rfl, rfl, rfl, rfl, rfl, rfl, rfl, rfl⟩⟩⟩)⟩⟩)⟩⟩⟩)⟩, hc_0, rfl⟩


set_option maxHeartbeats 4000000 in
set_option maxRecDepth 100000 in
theorem m_readLineX (l : Launch) (g : Gx) (h0 : Nat) (m_thrown : Int32) (a_tape : Nat) (m_taped : Int32) (m_size : Int32) (m_at : Int32) (m_end : Int32) (m_token : Int32) (m_whole : Int32) (m_nameSize : Int32) (m_fault : Int32) (m_place : Int32) (m_trouble : Int32) (a_letters : Nat) (m_failed : Int32) (m_hasHouse : Int32) (a_r : Nat) (a_fresh : Nat) (a_st : Nat) (a_undone : Nat) (a_kept : Nat) (m_undos : Int32) (m_images : Int32) (a_from : Nat) (a_begin : Nat) (a_motor : Nat) (a_change : Nat) (a_startFrame : Nat) (a_changeFrame : Nat) (a_lostAt : Nat) (a_blackAt : Nat) (a_slips : Nat) (a_leftArc : Nat) (a_died : Nat) (a_arcs : Nat) (m_bestSum : Int32) (m_nearest : Int32) (m_nearestTown : Int32) (a_there : Nat) (a_backAt : Nat) (a_sorted : Nat) (a_parts : Nat) (m_seed1 : Int32) (m_darkNow : Int32) (d_tape : Nat → Int32) (d_letters : Nat → Int32) (d_fresh : Nat → Int32) (hv_m_size : IV m_size 0 900) (hv_m_end : IV m_end 0 900) (hv_m_nameSize : IV m_nameSize 0 900) (hv_m_failed : IV m_failed 0 1) (hp_d_fresh : RInv d_fresh) (hr_0 : TRI d_fresh) (hc_0 : m_token = 2 → IV m_nameSize 0 8) : cV l g yX11_readLine cX11_readLine 1 9 198 0 0 [.ref h0] [(cO11_i1r1i10r1i2r5i2r12i3r4i2 h0 m_thrown a_tape m_taped m_size m_at m_end m_token m_whole m_nameSize m_fault m_place m_trouble a_letters m_failed m_hasHouse a_r a_fresh a_st a_undone a_kept m_undos m_images a_from a_begin a_motor a_change a_startFrame a_changeFrame a_lostAt a_blackAt a_slips a_leftArc a_died a_arcs m_bestSum m_nearest m_nearestTown a_there a_backAt a_sorted a_parts m_seed1 m_darkNow), (cAI g a_tape 900 d_tape), (cAI g a_letters 8 d_letters), (cAI g a_fresh 311 d_fresh)] (fun w => ∃ (m_at2 : Int32) (m_end2 : Int32) (m_failed2 : Int32) (m_fault2 : Int32) (d_fresh2 : Nat → Int32) (d_letters2 : Nat → Int32) (m_nameSize2 : Int32) (m_place2 : Int32) (m_token2 : Int32) (m_whole2 : Int32), IV m_end2 0 900 ∧ IV m_failed2 0 1 ∧ IV m_nameSize2 0 900 ∧ RInv d_fresh2 ∧ (m_failed2.toInt = 1 ∨ m_token.toInt = 2) ∧ (m_end.toInt ≤ m_end2.toInt) ∧ (TRI d_fresh2) ∧ (R_m_readLineX m_size m_at m_end m_token m_whole m_nameSize m_fault m_place m_failed d_tape d_letters d_fresh m_at2 m_end2 m_failed2 m_fault2 d_fresh2 d_letters2 m_nameSize2 m_place2 m_token2 m_whole2) ∧ (m_token2 = 2 → IV m_nameSize2 0 8) ∧ w = [(cO11_i1r1i10r1i2r5i2r12i3r4i2 h0 m_thrown a_tape m_taped m_size m_at2 m_end2 m_token2 m_whole2 m_nameSize2 m_fault2 m_place2 m_trouble a_letters m_failed2 m_hasHouse a_r a_fresh a_st a_undone a_kept m_undos m_images a_from a_begin a_motor a_change a_startFrame a_changeFrame a_lostAt a_blackAt a_slips a_leftArc a_died a_arcs m_bestSum m_nearest m_nearestTown a_there a_backAt a_sorted a_parts m_seed1 m_darkNow), (cAI g a_tape 900 d_tape), (cAI g a_letters 8 d_letters2), (cAI g a_fresh 311 d_fresh2)]) := by
  refine cV.of (by decide) (Nat.le_of_ble_eq_true rfl) ?_
  intro p e s m args below meth c A X hr hi
  refine k_lveq [(0, .ref h0)] rfl ?_
  refine k_aload_n X dX11_readLine_0 0 rfl ?_
  refine k_ldcS (tx := "house") X dX11_readLine_1 (by decide +kernel) (fun sr_1 hsr_1 => ?_)
  refine k_callVI (n := 1) (As := [.ref sr_1]) (st := []) X [(cO11_i1r1i10r1i2r5i2r12i3r4i2 h0 m_thrown a_tape m_taped m_size m_at m_end m_token m_whole m_nameSize m_fault m_place m_trouble a_letters m_failed m_hasHouse a_r a_fresh a_st a_undone a_kept m_undos m_images a_from a_begin a_motor a_change a_startFrame a_changeFrame a_lostAt a_blackAt a_slips a_leftArc a_died a_arcs m_bestSum m_nearest m_nearestTown a_there a_backAt a_sorted a_parts m_seed1 m_darkNow), (cAI g a_letters 8 d_letters)] [(cAI g a_tape 900 d_tape), (cAI g a_fresh 311 d_fresh)] [0, 2] [1, 3] (m_isWordX l g h0 sr_1 m_thrown a_tape m_taped m_size m_at m_end m_token m_whole m_nameSize m_fault m_place m_trouble a_letters m_failed m_hasHouse a_r a_fresh a_st a_undone a_kept m_undos m_images a_from a_begin a_motor a_change a_startFrame a_changeFrame a_lostAt a_blackAt a_slips a_leftArc a_died a_arcs m_bestSum m_nearest m_nearestTown a_there a_backAt a_sorted a_parts m_seed1 m_darkNow d_letters ("house") (iv_w hv_m_nameSize (by decide) (by decide)) (iv_w hv_m_failed (by decide) (by decide)) hsr_1 hc_0) dX11_readLine_3 mw509 mw510 mw511 mw5 mw512 rfl 11 rfl rfl 0 _ rfl yk_yX11_isWord_1 rfl (Nat.le_of_ble_eq_true rfl) (Nat.le_of_ble_eq_true rfl) (Nat.le_of_ble_eq_true rfl) (Nat.le_of_ble_eq_true rfl) (Nat.le_of_ble_eq_true rfl) rfl rfl (by decide) rfl (by decide) (by decide) ?_
  rintro r_2 w ⟨iv_3, hq_4, hk_5, rfl⟩
  refine k_ws [(cAI g a_tape 900 d_tape), (cAI g a_fresh 311 d_fresh), (cO11_i1r1i10r1i2r5i2r12i3r4i2 h0 m_thrown a_tape m_taped m_size m_at m_end m_token m_whole m_nameSize m_fault m_place m_trouble a_letters m_failed m_hasHouse a_r a_fresh a_st a_undone a_kept m_undos m_images a_from a_begin a_motor a_change a_startFrame a_changeFrame a_lostAt a_blackAt a_slips a_leftArc a_died a_arcs m_bestSum m_nearest m_nearestTown a_there a_backAt a_sorted a_parts m_seed1 m_darkNow), (cAI g a_letters 8 d_letters)] rfl ?_
  refine k_if_eq 16 X dX11_readLine_6 (by decide) (fun h_6 => ?_) (fun h_6 => ?_)
  · skip
    have iv_7 : IV r_2 0 0 := iv_meet iv_3 (iv_e h_6 (show IV 0 0 0 from (by decide))) (by decide) (by decide)
    refine k_aload_n X dX11_readLine_16 0 rfl ?_
    refine k_ldcS (tx := "reel") X dX11_readLine_17 (by decide +kernel) (fun sr_8 hsr_8 => ?_)
    refine k_aload_n X dX11_readLine_19 0 rfl ?_
    refine k_get (ci := 11) X inlX11 rfl 16 (by decide) dX11_readLine_20 mw171 2 rfl rfl ?_
    refine k_bipush (v := 6) X dX11_readLine_23 (by decide) ?_
    refine k_iald X dX11_readLine_25 1 rfl (by unfold vp_in; decide) ?_
    refine k_nm (fun z_9 ez_9 => ?_)
    have i_10 : z_9.toInt = (d_fresh 6).toInt := by rw [ez_9]; rfl
    have iv_11 : IV z_9 0 8 := rb_6 ez_9 hp_d_fresh
    refine k_bipush (v := 8) X dX11_readLine_26 (by decide) ?_
    refine k_join (fun b_12 => (((b_12 = 0 ∨ z_9.toInt < 8) ∧ IV b_12 0 1) ∧ (((((8 : Int32) ≤ z_9) ∧ (b_12 = 0)) ∨ ((¬ ((8 : Int32) ≤ z_9)) ∧ (b_12 = 1)))))) 36 [.ref sr_8, .ref h0] (fun hJ => ?_) (fun b_12 hb_13 => ?_)
    · skip
      refine k_ic_ge 35 X dX11_readLine_28 (by decide) (fun h_16 => ?_) (fun h_16 => ?_)
      · skip
        have j_17 : 8 ≤ z_9.toInt := iv_le h_16
        have iv_18 : IV z_9 8 8 := iv_leR (iv_le h_16) (show IV 8 8 8 from (by decide)) iv_11 (by decide)
        refine k_iconst (v := 0) X dX11_readLine_35 (by decide) ?_
        exact hJ 0 ⟨⟨by first | exact Or.inl rfl | exact Or.inr trivial | exact Or.inr (by omega), by decide⟩, (Or.inl ⟨h_16, rfl⟩)⟩
      · skip
        have j_19 : z_9.toInt < 8 := iv_nle h_16
        have iv_20 : IV z_9 0 7 := iv_ltL (iv_nle h_16) iv_11 (show IV 8 8 8 from (by decide)) (by decide)
        refine k_iconst (v := 1) X dX11_readLine_31 (by decide) ?_
        refine k_goto 36 X dX11_readLine_32 (by decide) ?_
        exact hJ 1 ⟨⟨by first | exact Or.inl rfl | exact Or.inr trivial | exact Or.inr (by omega), by decide⟩, (Or.inr ⟨h_16, rfl⟩)⟩
    · skip
      obtain ⟨⟨hb_13, hv_14⟩, hj_15⟩ := hb_13
      refine k_callVI (n := 2) (As := [.ref sr_8, .int b_12]) (st := []) X [(cO11_i1r1i10r1i2r5i2r12i3r4i2 h0 m_thrown a_tape m_taped m_size m_at m_end m_token m_whole m_nameSize m_fault m_place m_trouble a_letters m_failed m_hasHouse a_r a_fresh a_st a_undone a_kept m_undos m_images a_from a_begin a_motor a_change a_startFrame a_changeFrame a_lostAt a_blackAt a_slips a_leftArc a_died a_arcs m_bestSum m_nearest m_nearestTown a_there a_backAt a_sorted a_parts m_seed1 m_darkNow), (cAI g a_tape 900 d_tape), (cAI g a_letters 8 d_letters), (cAI g a_fresh 311 d_fresh)] [] [2, 0, 3, 1] [] (m_opensX l g h0 sr_8 b_12 m_thrown a_tape m_taped m_size m_at m_end m_token m_whole m_nameSize m_fault m_place m_trouble a_letters m_failed m_hasHouse a_r a_fresh a_st a_undone a_kept m_undos m_images a_from a_begin a_motor a_change a_startFrame a_changeFrame a_lostAt a_blackAt a_slips a_leftArc a_died a_arcs m_bestSum m_nearest m_nearestTown a_there a_backAt a_sorted a_parts m_seed1 m_darkNow d_tape d_letters d_fresh ("reel") (iv_w hv_14 (by decide) (by decide)) (iv_w hv_m_size (by decide) (by decide)) (iv_w hv_m_end (by decide) (by decide)) (iv_w hv_m_nameSize (by decide) (by decide)) (iv_w hv_m_failed (by decide) (by decide)) hp_d_fresh hsr_8 hc_0) dX11_readLine_36 mw543 mw544 mw545 mw5 mw546 rfl 11 rfl rfl 0 _ rfl yk_yX11_opens_2 rfl (Nat.le_of_ble_eq_true rfl) (Nat.le_of_ble_eq_true rfl) (Nat.le_of_ble_eq_true rfl) (Nat.le_of_ble_eq_true rfl) (Nat.le_of_ble_eq_true rfl) rfl rfl (by decide) rfl (by decide) (by decide) ?_
      intro r_30 w zq
      refine exE9 zq ?_
      clear zq
      intro m_at2_21 m_end2_22 m_failed2_23 m_fault2_24 d_letters2_25 m_nameSize2_26 m_place2_27 m_token2_28 m_whole2_29 iv_31 zq
      refine exA9 zq ?_
      clear zq
      intro iv_32 iv_33 iv_34 hq_35 hq_36 hq_37 hq_38 hk_39 hk_40 zq
      subst zq
      refine k_ws [(cO11_i1r1i10r1i2r5i2r12i3r4i2 h0 m_thrown a_tape m_taped m_size m_at2_21 m_end2_22 m_token2_28 m_whole2_29 m_nameSize2_26 m_fault2_24 m_place2_27 m_trouble a_letters m_failed2_23 m_hasHouse a_r a_fresh a_st a_undone a_kept m_undos m_images a_from a_begin a_motor a_change a_startFrame a_changeFrame a_lostAt a_blackAt a_slips a_leftArc a_died a_arcs m_bestSum m_nearest m_nearestTown a_there a_backAt a_sorted a_parts m_seed1 m_darkNow), (cAI g a_tape 900 d_tape), (cAI g a_letters 8 d_letters2_25), (cAI g a_fresh 311 d_fresh)] rfl ?_
      refine k_if_eq 49 X dX11_readLine_39 (by decide) (fun h_41 => ?_) (fun h_41 => ?_)
      · skip
        have iv_42 : IV r_30 0 0 := iv_meet iv_34 (iv_e h_41 (show IV 0 0 0 from (by decide))) (by decide) (by decide)
        refine k_aload_n X dX11_readLine_49 0 rfl ?_
        refine k_ldcS (tx := "town") X dX11_readLine_50 (by decide +kernel) (fun sr_43 hsr_43 => ?_)
        refine k_aload_n X dX11_readLine_52 0 rfl ?_
        refine k_get (ci := 11) X inlX11 rfl 16 (by decide) dX11_readLine_53 mw171 0 rfl rfl ?_
        refine k_bipush (v := 7) X dX11_readLine_56 (by decide) ?_
        refine k_iald X dX11_readLine_58 3 rfl (by unfold vp_in; decide) ?_
        refine k_nm (fun z_44 ez_44 => ?_)
        have i_45 : z_44.toInt = (d_fresh 7).toInt := by rw [ez_44]; rfl
        have iv_46 : IV z_44 0 4 := rb_7 ez_44 hp_d_fresh
        refine k_iconst (v := 4) X dX11_readLine_59 (by decide) ?_
        refine k_join (fun b_47 => (((b_47 = 0 ∨ z_44.toInt < 4) ∧ IV b_47 0 1) ∧ (((((4 : Int32) ≤ z_44) ∧ (b_47 = 0)) ∨ ((¬ ((4 : Int32) ≤ z_44)) ∧ (b_47 = 1)))))) 68 [.ref sr_43, .ref h0] (fun hJ => ?_) (fun b_47 hb_48 => ?_)
        · skip
          refine k_ic_ge 67 X dX11_readLine_60 (by decide) (fun h_51 => ?_) (fun h_51 => ?_)
          · skip
            have j_52 : 4 ≤ z_44.toInt := iv_le h_51
            have iv_53 : IV z_44 4 4 := iv_leR (iv_le h_51) (show IV 4 4 4 from (by decide)) iv_46 (by decide)
            refine k_iconst (v := 0) X dX11_readLine_67 (by decide) ?_
            exact hJ 0 ⟨⟨by first | exact Or.inl rfl | exact Or.inr trivial | exact Or.inr (by omega), by decide⟩, (Or.inl ⟨h_51, rfl⟩)⟩
          · skip
            have j_54 : z_44.toInt < 4 := iv_nle h_51
            have iv_55 : IV z_44 0 3 := iv_ltL (iv_nle h_51) iv_46 (show IV 4 4 4 from (by decide)) (by decide)
            refine k_iconst (v := 1) X dX11_readLine_63 (by decide) ?_
            refine k_goto 68 X dX11_readLine_64 (by decide) ?_
            exact hJ 1 ⟨⟨by first | exact Or.inl rfl | exact Or.inr trivial | exact Or.inr (by omega), by decide⟩, (Or.inr ⟨h_51, rfl⟩)⟩
        · skip
          obtain ⟨⟨hb_48, hv_49⟩, hj_50⟩ := hb_48
          refine k_callVI (n := 2) (As := [.ref sr_43, .int b_47]) (st := []) X [(cO11_i1r1i10r1i2r5i2r12i3r4i2 h0 m_thrown a_tape m_taped m_size m_at2_21 m_end2_22 m_token2_28 m_whole2_29 m_nameSize2_26 m_fault2_24 m_place2_27 m_trouble a_letters m_failed2_23 m_hasHouse a_r a_fresh a_st a_undone a_kept m_undos m_images a_from a_begin a_motor a_change a_startFrame a_changeFrame a_lostAt a_blackAt a_slips a_leftArc a_died a_arcs m_bestSum m_nearest m_nearestTown a_there a_backAt a_sorted a_parts m_seed1 m_darkNow), (cAI g a_tape 900 d_tape), (cAI g a_letters 8 d_letters2_25), (cAI g a_fresh 311 d_fresh)] [] [0, 1, 2, 3] [] (m_opensX l g h0 sr_43 b_47 m_thrown a_tape m_taped m_size m_at2_21 m_end2_22 m_token2_28 m_whole2_29 m_nameSize2_26 m_fault2_24 m_place2_27 m_trouble a_letters m_failed2_23 m_hasHouse a_r a_fresh a_st a_undone a_kept m_undos m_images a_from a_begin a_motor a_change a_startFrame a_changeFrame a_lostAt a_blackAt a_slips a_leftArc a_died a_arcs m_bestSum m_nearest m_nearestTown a_there a_backAt a_sorted a_parts m_seed1 m_darkNow d_tape d_letters2_25 d_fresh ("town") (iv_w hv_49 (by decide) (by decide)) (iv_w hv_m_size (by decide) (by decide)) (iv_w iv_31 (by decide) (by decide)) (iv_w iv_33 (by decide) (by decide)) (iv_w iv_32 (by decide) (by decide)) hp_d_fresh hsr_43 hk_40) dX11_readLine_68 mw543 mw544 mw545 mw5 mw546 rfl 11 rfl rfl 0 _ rfl yk_yX11_opens_2 rfl (Nat.le_of_ble_eq_true rfl) (Nat.le_of_ble_eq_true rfl) (Nat.le_of_ble_eq_true rfl) (Nat.le_of_ble_eq_true rfl) (Nat.le_of_ble_eq_true rfl) rfl rfl (by decide) rfl (by decide) (by decide) ?_
          intro r_65 w zq
          refine exE9 zq ?_
          clear zq
          intro m_at2_56 m_end2_57 m_failed2_58 m_fault2_59 d_letters2_60 m_nameSize2_61 m_place2_62 m_token2_63 m_whole2_64 iv_66 zq
          refine exA9 zq ?_
          clear zq
          intro iv_67 iv_68 iv_69 hq_70 hq_71 hq_72 hq_73 hk_74 hk_75 zq
          subst zq
          refine k_ws [(cO11_i1r1i10r1i2r5i2r12i3r4i2 h0 m_thrown a_tape m_taped m_size m_at2_56 m_end2_57 m_token2_63 m_whole2_64 m_nameSize2_61 m_fault2_59 m_place2_62 m_trouble a_letters m_failed2_58 m_hasHouse a_r a_fresh a_st a_undone a_kept m_undos m_images a_from a_begin a_motor a_change a_startFrame a_changeFrame a_lostAt a_blackAt a_slips a_leftArc a_died a_arcs m_bestSum m_nearest m_nearestTown a_there a_backAt a_sorted a_parts m_seed1 m_darkNow), (cAI g a_tape 900 d_tape), (cAI g a_letters 8 d_letters2_60), (cAI g a_fresh 311 d_fresh)] rfl ?_
          refine k_if_eq 81 X dX11_readLine_71 (by decide) (fun h_76 => ?_) (fun h_76 => ?_)
          · skip
            have iv_77 : IV r_65 0 0 := iv_meet iv_69 (iv_e h_76 (show IV 0 0 0 from (by decide))) (by decide) (by decide)
            refine k_aload_n X dX11_readLine_81 0 rfl ?_
            refine k_ldcS (tx := "mark") X dX11_readLine_82 (by decide +kernel) (fun sr_78 hsr_78 => ?_)
            refine k_aload_n X dX11_readLine_84 0 rfl ?_
            refine k_get (ci := 11) X inlX11 rfl 16 (by decide) dX11_readLine_85 mw171 0 rfl rfl ?_
            refine k_bipush (v := 8) X dX11_readLine_88 (by decide) ?_
            refine k_iald X dX11_readLine_90 3 rfl (by unfold vp_in; decide) ?_
            refine k_nm (fun z_79 ez_79 => ?_)
            have i_80 : z_79.toInt = (d_fresh 8).toInt := by rw [ez_79]; rfl
            have iv_81 : IV z_79 0 12 := rb_8 ez_79 hp_d_fresh
            refine k_bipush (v := 12) X dX11_readLine_91 (by decide) ?_
            refine k_join (fun b_82 => (((b_82 = 0 ∨ z_79.toInt < 12) ∧ IV b_82 0 1) ∧ (((((12 : Int32) ≤ z_79) ∧ (b_82 = 0)) ∨ ((¬ ((12 : Int32) ≤ z_79)) ∧ (b_82 = 1)))))) 101 [.ref sr_78, .ref h0] (fun hJ => ?_) (fun b_82 hb_83 => ?_)
            · skip
              refine k_ic_ge 100 X dX11_readLine_93 (by decide) (fun h_86 => ?_) (fun h_86 => ?_)
              · skip
                have j_87 : 12 ≤ z_79.toInt := iv_le h_86
                have iv_88 : IV z_79 12 12 := iv_leR (iv_le h_86) (show IV 12 12 12 from (by decide)) iv_81 (by decide)
                refine k_iconst (v := 0) X dX11_readLine_100 (by decide) ?_
                exact hJ 0 ⟨⟨by first | exact Or.inl rfl | exact Or.inr trivial | exact Or.inr (by omega), by decide⟩, (Or.inl ⟨h_86, rfl⟩)⟩
              · skip
                have j_89 : z_79.toInt < 12 := iv_nle h_86
                have iv_90 : IV z_79 0 11 := iv_ltL (iv_nle h_86) iv_81 (show IV 12 12 12 from (by decide)) (by decide)
                refine k_iconst (v := 1) X dX11_readLine_96 (by decide) ?_
                refine k_goto 101 X dX11_readLine_97 (by decide) ?_
                exact hJ 1 ⟨⟨by first | exact Or.inl rfl | exact Or.inr trivial | exact Or.inr (by omega), by decide⟩, (Or.inr ⟨h_86, rfl⟩)⟩
            · skip
              obtain ⟨⟨hb_83, hv_84⟩, hj_85⟩ := hb_83
              refine k_callVI (n := 2) (As := [.ref sr_78, .int b_82]) (st := []) X [(cO11_i1r1i10r1i2r5i2r12i3r4i2 h0 m_thrown a_tape m_taped m_size m_at2_56 m_end2_57 m_token2_63 m_whole2_64 m_nameSize2_61 m_fault2_59 m_place2_62 m_trouble a_letters m_failed2_58 m_hasHouse a_r a_fresh a_st a_undone a_kept m_undos m_images a_from a_begin a_motor a_change a_startFrame a_changeFrame a_lostAt a_blackAt a_slips a_leftArc a_died a_arcs m_bestSum m_nearest m_nearestTown a_there a_backAt a_sorted a_parts m_seed1 m_darkNow), (cAI g a_tape 900 d_tape), (cAI g a_letters 8 d_letters2_60), (cAI g a_fresh 311 d_fresh)] [] [0, 1, 2, 3] [] (m_opensX l g h0 sr_78 b_82 m_thrown a_tape m_taped m_size m_at2_56 m_end2_57 m_token2_63 m_whole2_64 m_nameSize2_61 m_fault2_59 m_place2_62 m_trouble a_letters m_failed2_58 m_hasHouse a_r a_fresh a_st a_undone a_kept m_undos m_images a_from a_begin a_motor a_change a_startFrame a_changeFrame a_lostAt a_blackAt a_slips a_leftArc a_died a_arcs m_bestSum m_nearest m_nearestTown a_there a_backAt a_sorted a_parts m_seed1 m_darkNow d_tape d_letters2_60 d_fresh ("mark") (iv_w hv_84 (by decide) (by decide)) (iv_w hv_m_size (by decide) (by decide)) (iv_w iv_66 (by decide) (by decide)) (iv_w iv_68 (by decide) (by decide)) (iv_w iv_67 (by decide) (by decide)) hp_d_fresh hsr_78 hk_75) dX11_readLine_101 mw543 mw544 mw545 mw5 mw546 rfl 11 rfl rfl 0 _ rfl yk_yX11_opens_2 rfl (Nat.le_of_ble_eq_true rfl) (Nat.le_of_ble_eq_true rfl) (Nat.le_of_ble_eq_true rfl) (Nat.le_of_ble_eq_true rfl) (Nat.le_of_ble_eq_true rfl) rfl rfl (by decide) rfl (by decide) (by decide) ?_
              intro r_100 w zq
              refine exE9 zq ?_
              clear zq
              intro m_at2_91 m_end2_92 m_failed2_93 m_fault2_94 d_letters2_95 m_nameSize2_96 m_place2_97 m_token2_98 m_whole2_99 iv_101 zq
              refine exA9 zq ?_
              clear zq
              intro iv_102 iv_103 iv_104 hq_105 hq_106 hq_107 hq_108 hk_109 hk_110 zq
              subst zq
              refine k_ws [(cO11_i1r1i10r1i2r5i2r12i3r4i2 h0 m_thrown a_tape m_taped m_size m_at2_91 m_end2_92 m_token2_98 m_whole2_99 m_nameSize2_96 m_fault2_94 m_place2_97 m_trouble a_letters m_failed2_93 m_hasHouse a_r a_fresh a_st a_undone a_kept m_undos m_images a_from a_begin a_motor a_change a_startFrame a_changeFrame a_lostAt a_blackAt a_slips a_leftArc a_died a_arcs m_bestSum m_nearest m_nearestTown a_there a_backAt a_sorted a_parts m_seed1 m_darkNow), (cAI g a_tape 900 d_tape), (cAI g a_letters 8 d_letters2_95), (cAI g a_fresh 311 d_fresh)] rfl ?_
              refine k_if_eq 114 X dX11_readLine_104 (by decide) (fun h_111 => ?_) (fun h_111 => ?_)
              · skip
                have iv_112 : IV r_100 0 0 := iv_meet iv_104 (iv_e h_111 (show IV 0 0 0 from (by decide))) (by decide) (by decide)
                refine k_aload_n X dX11_readLine_114 0 rfl ?_
                refine k_ldcS (tx := "join") X dX11_readLine_115 (by decide +kernel) (fun sr_113 hsr_113 => ?_)
                refine k_aload_n X dX11_readLine_117 0 rfl ?_
                refine k_get (ci := 11) X inlX11 rfl 16 (by decide) dX11_readLine_118 mw171 0 rfl rfl ?_
                refine k_bipush (v := 9) X dX11_readLine_121 (by decide) ?_
                refine k_iald X dX11_readLine_123 3 rfl (by unfold vp_in; decide) ?_
                refine k_nm (fun z_114 ez_114 => ?_)
                have i_115 : z_114.toInt = (d_fresh 9).toInt := by rw [ez_114]; rfl
                have iv_116 : IV z_114 0 8 := rb_9 ez_114 hp_d_fresh
                refine k_bipush (v := 8) X dX11_readLine_124 (by decide) ?_
                refine k_join (fun b_117 => (((b_117 = 0 ∨ z_114.toInt < 8) ∧ IV b_117 0 1) ∧ (((((8 : Int32) ≤ z_114) ∧ (b_117 = 0)) ∨ ((¬ ((8 : Int32) ≤ z_114)) ∧ (b_117 = 1)))))) 134 [.ref sr_113, .ref h0] (fun hJ => ?_) (fun b_117 hb_118 => ?_)
                · skip
                  refine k_ic_ge 133 X dX11_readLine_126 (by decide) (fun h_121 => ?_) (fun h_121 => ?_)
                  · skip
                    have j_122 : 8 ≤ z_114.toInt := iv_le h_121
                    have iv_123 : IV z_114 8 8 := iv_leR (iv_le h_121) (show IV 8 8 8 from (by decide)) iv_116 (by decide)
                    refine k_iconst (v := 0) X dX11_readLine_133 (by decide) ?_
                    exact hJ 0 ⟨⟨by first | exact Or.inl rfl | exact Or.inr trivial | exact Or.inr (by omega), by decide⟩, (Or.inl ⟨h_121, rfl⟩)⟩
                  · skip
                    have j_124 : z_114.toInt < 8 := iv_nle h_121
                    have iv_125 : IV z_114 0 7 := iv_ltL (iv_nle h_121) iv_116 (show IV 8 8 8 from (by decide)) (by decide)
                    refine k_iconst (v := 1) X dX11_readLine_129 (by decide) ?_
                    refine k_goto 134 X dX11_readLine_130 (by decide) ?_
                    exact hJ 1 ⟨⟨by first | exact Or.inl rfl | exact Or.inr trivial | exact Or.inr (by omega), by decide⟩, (Or.inr ⟨h_121, rfl⟩)⟩
                · skip
                  obtain ⟨⟨hb_118, hv_119⟩, hj_120⟩ := hb_118
                  refine k_callVI (n := 2) (As := [.ref sr_113, .int b_117]) (st := []) X [(cO11_i1r1i10r1i2r5i2r12i3r4i2 h0 m_thrown a_tape m_taped m_size m_at2_91 m_end2_92 m_token2_98 m_whole2_99 m_nameSize2_96 m_fault2_94 m_place2_97 m_trouble a_letters m_failed2_93 m_hasHouse a_r a_fresh a_st a_undone a_kept m_undos m_images a_from a_begin a_motor a_change a_startFrame a_changeFrame a_lostAt a_blackAt a_slips a_leftArc a_died a_arcs m_bestSum m_nearest m_nearestTown a_there a_backAt a_sorted a_parts m_seed1 m_darkNow), (cAI g a_tape 900 d_tape), (cAI g a_letters 8 d_letters2_95), (cAI g a_fresh 311 d_fresh)] [] [0, 1, 2, 3] [] (m_opensX l g h0 sr_113 b_117 m_thrown a_tape m_taped m_size m_at2_91 m_end2_92 m_token2_98 m_whole2_99 m_nameSize2_96 m_fault2_94 m_place2_97 m_trouble a_letters m_failed2_93 m_hasHouse a_r a_fresh a_st a_undone a_kept m_undos m_images a_from a_begin a_motor a_change a_startFrame a_changeFrame a_lostAt a_blackAt a_slips a_leftArc a_died a_arcs m_bestSum m_nearest m_nearestTown a_there a_backAt a_sorted a_parts m_seed1 m_darkNow d_tape d_letters2_95 d_fresh ("join") (iv_w hv_119 (by decide) (by decide)) (iv_w hv_m_size (by decide) (by decide)) (iv_w iv_101 (by decide) (by decide)) (iv_w iv_103 (by decide) (by decide)) (iv_w iv_102 (by decide) (by decide)) hp_d_fresh hsr_113 hk_110) dX11_readLine_134 mw543 mw544 mw545 mw5 mw546 rfl 11 rfl rfl 0 _ rfl yk_yX11_opens_2 rfl (Nat.le_of_ble_eq_true rfl) (Nat.le_of_ble_eq_true rfl) (Nat.le_of_ble_eq_true rfl) (Nat.le_of_ble_eq_true rfl) (Nat.le_of_ble_eq_true rfl) rfl rfl (by decide) rfl (by decide) (by decide) ?_
                  intro r_135 w zq
                  refine exE9 zq ?_
                  clear zq
                  intro m_at2_126 m_end2_127 m_failed2_128 m_fault2_129 d_letters2_130 m_nameSize2_131 m_place2_132 m_token2_133 m_whole2_134 iv_136 zq
                  refine exA9 zq ?_
                  clear zq
                  intro iv_137 iv_138 iv_139 hq_140 hq_141 hq_142 hq_143 hk_144 hk_145 zq
                  subst zq
                  refine k_ws [(cO11_i1r1i10r1i2r5i2r12i3r4i2 h0 m_thrown a_tape m_taped m_size m_at2_126 m_end2_127 m_token2_133 m_whole2_134 m_nameSize2_131 m_fault2_129 m_place2_132 m_trouble a_letters m_failed2_128 m_hasHouse a_r a_fresh a_st a_undone a_kept m_undos m_images a_from a_begin a_motor a_change a_startFrame a_changeFrame a_lostAt a_blackAt a_slips a_leftArc a_died a_arcs m_bestSum m_nearest m_nearestTown a_there a_backAt a_sorted a_parts m_seed1 m_darkNow), (cAI g a_tape 900 d_tape), (cAI g a_letters 8 d_letters2_130), (cAI g a_fresh 311 d_fresh)] rfl ?_
                  refine k_if_eq 147 X dX11_readLine_137 (by decide) (fun h_146 => ?_) (fun h_146 => ?_)
                  · skip
                    have iv_147 : IV r_135 0 0 := iv_meet iv_139 (iv_e h_146 (show IV 0 0 0 from (by decide))) (by decide) (by decide)
                    refine k_aload_n X dX11_readLine_147 0 rfl ?_
                    refine k_ldcS (tx := "weak") X dX11_readLine_148 (by decide +kernel) (fun sr_148 hsr_148 => ?_)
                    refine k_aload_n X dX11_readLine_150 0 rfl ?_
                    refine k_get (ci := 11) X inlX11 rfl 16 (by decide) dX11_readLine_151 mw171 0 rfl rfl ?_
                    refine k_bipush (v := 10) X dX11_readLine_154 (by decide) ?_
                    refine k_iald X dX11_readLine_156 3 rfl (by unfold vp_in; decide) ?_
                    refine k_nm (fun z_149 ez_149 => ?_)
                    have i_150 : z_149.toInt = (d_fresh 10).toInt := by rw [ez_149]; rfl
                    have iv_151 : IV z_149 0 6 := rb_10 ez_149 hp_d_fresh
                    refine k_bipush (v := 6) X dX11_readLine_157 (by decide) ?_
                    refine k_join (fun b_152 => (((b_152 = 0 ∨ z_149.toInt < 6) ∧ IV b_152 0 1) ∧ (((((6 : Int32) ≤ z_149) ∧ (b_152 = 0)) ∨ ((¬ ((6 : Int32) ≤ z_149)) ∧ (b_152 = 1)))))) 167 [.ref sr_148, .ref h0] (fun hJ => ?_) (fun b_152 hb_153 => ?_)
                    · skip
                      refine k_ic_ge 166 X dX11_readLine_159 (by decide) (fun h_156 => ?_) (fun h_156 => ?_)
                      · skip
                        have j_157 : 6 ≤ z_149.toInt := iv_le h_156
                        have iv_158 : IV z_149 6 6 := iv_leR (iv_le h_156) (show IV 6 6 6 from (by decide)) iv_151 (by decide)
                        refine k_iconst (v := 0) X dX11_readLine_166 (by decide) ?_
                        exact hJ 0 ⟨⟨by first | exact Or.inl rfl | exact Or.inr trivial | exact Or.inr (by omega), by decide⟩, (Or.inl ⟨h_156, rfl⟩)⟩
                      · skip
                        have j_159 : z_149.toInt < 6 := iv_nle h_156
                        have iv_160 : IV z_149 0 5 := iv_ltL (iv_nle h_156) iv_151 (show IV 6 6 6 from (by decide)) (by decide)
                        refine k_iconst (v := 1) X dX11_readLine_162 (by decide) ?_
                        refine k_goto 167 X dX11_readLine_163 (by decide) ?_
                        exact hJ 1 ⟨⟨by first | exact Or.inl rfl | exact Or.inr trivial | exact Or.inr (by omega), by decide⟩, (Or.inr ⟨h_156, rfl⟩)⟩
                    · skip
                      obtain ⟨⟨hb_153, hv_154⟩, hj_155⟩ := hb_153
                      refine k_callVI (n := 2) (As := [.ref sr_148, .int b_152]) (st := []) X [(cO11_i1r1i10r1i2r5i2r12i3r4i2 h0 m_thrown a_tape m_taped m_size m_at2_126 m_end2_127 m_token2_133 m_whole2_134 m_nameSize2_131 m_fault2_129 m_place2_132 m_trouble a_letters m_failed2_128 m_hasHouse a_r a_fresh a_st a_undone a_kept m_undos m_images a_from a_begin a_motor a_change a_startFrame a_changeFrame a_lostAt a_blackAt a_slips a_leftArc a_died a_arcs m_bestSum m_nearest m_nearestTown a_there a_backAt a_sorted a_parts m_seed1 m_darkNow), (cAI g a_tape 900 d_tape), (cAI g a_letters 8 d_letters2_130), (cAI g a_fresh 311 d_fresh)] [] [0, 1, 2, 3] [] (m_opensX l g h0 sr_148 b_152 m_thrown a_tape m_taped m_size m_at2_126 m_end2_127 m_token2_133 m_whole2_134 m_nameSize2_131 m_fault2_129 m_place2_132 m_trouble a_letters m_failed2_128 m_hasHouse a_r a_fresh a_st a_undone a_kept m_undos m_images a_from a_begin a_motor a_change a_startFrame a_changeFrame a_lostAt a_blackAt a_slips a_leftArc a_died a_arcs m_bestSum m_nearest m_nearestTown a_there a_backAt a_sorted a_parts m_seed1 m_darkNow d_tape d_letters2_130 d_fresh ("weak") (iv_w hv_154 (by decide) (by decide)) (iv_w hv_m_size (by decide) (by decide)) (iv_w iv_136 (by decide) (by decide)) (iv_w iv_138 (by decide) (by decide)) (iv_w iv_137 (by decide) (by decide)) hp_d_fresh hsr_148 hk_145) dX11_readLine_167 mw543 mw544 mw545 mw5 mw546 rfl 11 rfl rfl 0 _ rfl yk_yX11_opens_2 rfl (Nat.le_of_ble_eq_true rfl) (Nat.le_of_ble_eq_true rfl) (Nat.le_of_ble_eq_true rfl) (Nat.le_of_ble_eq_true rfl) (Nat.le_of_ble_eq_true rfl) rfl rfl (by decide) rfl (by decide) (by decide) ?_
                      intro r_170 w zq
                      refine exE9 zq ?_
                      clear zq
                      intro m_at2_161 m_end2_162 m_failed2_163 m_fault2_164 d_letters2_165 m_nameSize2_166 m_place2_167 m_token2_168 m_whole2_169 iv_171 zq
                      refine exA9 zq ?_
                      clear zq
                      intro iv_172 iv_173 iv_174 hq_175 hq_176 hq_177 hq_178 hk_179 hk_180 zq
                      subst zq
                      refine k_ws [(cO11_i1r1i10r1i2r5i2r12i3r4i2 h0 m_thrown a_tape m_taped m_size m_at2_161 m_end2_162 m_token2_168 m_whole2_169 m_nameSize2_166 m_fault2_164 m_place2_167 m_trouble a_letters m_failed2_163 m_hasHouse a_r a_fresh a_st a_undone a_kept m_undos m_images a_from a_begin a_motor a_change a_startFrame a_changeFrame a_lostAt a_blackAt a_slips a_leftArc a_died a_arcs m_bestSum m_nearest m_nearestTown a_there a_backAt a_sorted a_parts m_seed1 m_darkNow), (cAI g a_tape 900 d_tape), (cAI g a_letters 8 d_letters2_165), (cAI g a_fresh 311 d_fresh)] rfl ?_
                      refine k_if_eq 180 X dX11_readLine_170 (by decide) (fun h_181 => ?_) (fun h_181 => ?_)
                      · skip
                        have iv_182 : IV r_170 0 0 := iv_meet iv_174 (iv_e h_181 (show IV 0 0 0 from (by decide))) (by decide) (by decide)
                        refine k_aload_n X dX11_readLine_180 0 rfl ?_
                        refine k_ldcS (tx := "man") X dX11_readLine_181 (by decide +kernel) (fun sr_183 hsr_183 => ?_)
                        refine k_aload_n X dX11_readLine_183 0 rfl ?_
                        refine k_get (ci := 11) X inlX11 rfl 16 (by decide) dX11_readLine_184 mw171 0 rfl rfl ?_
                        refine k_bipush (v := 11) X dX11_readLine_187 (by decide) ?_
                        refine k_iald X dX11_readLine_189 3 rfl (by unfold vp_in; decide) ?_
                        refine k_nm (fun z_184 ez_184 => ?_)
                        have i_185 : z_184.toInt = (d_fresh 11).toInt := by rw [ez_184]; rfl
                        have iv_186 : IV z_184 0 4 := rb_11 ez_184 hp_d_fresh
                        refine k_iconst (v := 4) X dX11_readLine_190 (by decide) ?_
                        refine k_join (fun b_187 => (((b_187 = 0 ∨ z_184.toInt < 4) ∧ IV b_187 0 1) ∧ (((((4 : Int32) ≤ z_184) ∧ (b_187 = 0)) ∨ ((¬ ((4 : Int32) ≤ z_184)) ∧ (b_187 = 1)))))) 199 [.ref sr_183, .ref h0] (fun hJ => ?_) (fun b_187 hb_188 => ?_)
                        · skip
                          refine k_ic_ge 198 X dX11_readLine_191 (by decide) (fun h_191 => ?_) (fun h_191 => ?_)
                          · skip
                            have j_192 : 4 ≤ z_184.toInt := iv_le h_191
                            have iv_193 : IV z_184 4 4 := iv_leR (iv_le h_191) (show IV 4 4 4 from (by decide)) iv_186 (by decide)
                            refine k_iconst (v := 0) X dX11_readLine_198 (by decide) ?_
                            exact hJ 0 ⟨⟨by first | exact Or.inl rfl | exact Or.inr trivial | exact Or.inr (by omega), by decide⟩, (Or.inl ⟨h_191, rfl⟩)⟩
                          · skip
                            have j_194 : z_184.toInt < 4 := iv_nle h_191
                            have iv_195 : IV z_184 0 3 := iv_ltL (iv_nle h_191) iv_186 (show IV 4 4 4 from (by decide)) (by decide)
                            refine k_iconst (v := 1) X dX11_readLine_194 (by decide) ?_
                            refine k_goto 199 X dX11_readLine_195 (by decide) ?_
                            exact hJ 1 ⟨⟨by first | exact Or.inl rfl | exact Or.inr trivial | exact Or.inr (by omega), by decide⟩, (Or.inr ⟨h_191, rfl⟩)⟩
                        · skip
                          obtain ⟨⟨hb_188, hv_189⟩, hj_190⟩ := hb_188
                          refine k_callVI (n := 2) (As := [.ref sr_183, .int b_187]) (st := []) X [(cO11_i1r1i10r1i2r5i2r12i3r4i2 h0 m_thrown a_tape m_taped m_size m_at2_161 m_end2_162 m_token2_168 m_whole2_169 m_nameSize2_166 m_fault2_164 m_place2_167 m_trouble a_letters m_failed2_163 m_hasHouse a_r a_fresh a_st a_undone a_kept m_undos m_images a_from a_begin a_motor a_change a_startFrame a_changeFrame a_lostAt a_blackAt a_slips a_leftArc a_died a_arcs m_bestSum m_nearest m_nearestTown a_there a_backAt a_sorted a_parts m_seed1 m_darkNow), (cAI g a_tape 900 d_tape), (cAI g a_letters 8 d_letters2_165), (cAI g a_fresh 311 d_fresh)] [] [0, 1, 2, 3] [] (m_opensX l g h0 sr_183 b_187 m_thrown a_tape m_taped m_size m_at2_161 m_end2_162 m_token2_168 m_whole2_169 m_nameSize2_166 m_fault2_164 m_place2_167 m_trouble a_letters m_failed2_163 m_hasHouse a_r a_fresh a_st a_undone a_kept m_undos m_images a_from a_begin a_motor a_change a_startFrame a_changeFrame a_lostAt a_blackAt a_slips a_leftArc a_died a_arcs m_bestSum m_nearest m_nearestTown a_there a_backAt a_sorted a_parts m_seed1 m_darkNow d_tape d_letters2_165 d_fresh ("man") (iv_w hv_189 (by decide) (by decide)) (iv_w hv_m_size (by decide) (by decide)) (iv_w iv_171 (by decide) (by decide)) (iv_w iv_173 (by decide) (by decide)) (iv_w iv_172 (by decide) (by decide)) hp_d_fresh hsr_183 hk_180) dX11_readLine_199 mw543 mw544 mw545 mw5 mw546 rfl 11 rfl rfl 0 _ rfl yk_yX11_opens_2 rfl (Nat.le_of_ble_eq_true rfl) (Nat.le_of_ble_eq_true rfl) (Nat.le_of_ble_eq_true rfl) (Nat.le_of_ble_eq_true rfl) (Nat.le_of_ble_eq_true rfl) rfl rfl (by decide) rfl (by decide) (by decide) ?_
                          intro r_205 w zq
                          refine exE9 zq ?_
                          clear zq
                          intro m_at2_196 m_end2_197 m_failed2_198 m_fault2_199 d_letters2_200 m_nameSize2_201 m_place2_202 m_token2_203 m_whole2_204 iv_206 zq
                          refine exA9 zq ?_
                          clear zq
                          intro iv_207 iv_208 iv_209 hq_210 hq_211 hq_212 hq_213 hk_214 hk_215 zq
                          subst zq
                          refine k_ws [(cO11_i1r1i10r1i2r5i2r12i3r4i2 h0 m_thrown a_tape m_taped m_size m_at2_196 m_end2_197 m_token2_203 m_whole2_204 m_nameSize2_201 m_fault2_199 m_place2_202 m_trouble a_letters m_failed2_198 m_hasHouse a_r a_fresh a_st a_undone a_kept m_undos m_images a_from a_begin a_motor a_change a_startFrame a_changeFrame a_lostAt a_blackAt a_slips a_leftArc a_died a_arcs m_bestSum m_nearest m_nearestTown a_there a_backAt a_sorted a_parts m_seed1 m_darkNow), (cAI g a_tape 900 d_tape), (cAI g a_letters 8 d_letters2_200), (cAI g a_fresh 311 d_fresh)] rfl ?_
                          refine k_if_eq 212 X dX11_readLine_202 (by decide) (fun h_216 => ?_) (fun h_216 => ?_)
                          · skip
                            have iv_217 : IV r_205 0 0 := iv_meet iv_209 (iv_e h_216 (show IV 0 0 0 from (by decide))) (by decide) (by decide)
                            refine k_aload_n X dX11_readLine_212 0 rfl ?_
                            refine k_ldcS (tx := "shows") X dX11_readLine_213 (by decide +kernel) (fun sr_218 hsr_218 => ?_)
                            refine k_aload_n X dX11_readLine_215 0 rfl ?_
                            refine k_get (ci := 11) X inlX11 rfl 16 (by decide) dX11_readLine_216 mw171 0 rfl rfl ?_
                            refine k_bipush (v := 12) X dX11_readLine_219 (by decide) ?_
                            refine k_iald X dX11_readLine_221 3 rfl (by unfold vp_in; decide) ?_
                            refine k_nm (fun z_219 ez_219 => ?_)
                            have i_220 : z_219.toInt = (d_fresh 12).toInt := by rw [ez_219]; rfl
                            have iv_221 : IV z_219 0 8 := rb_12 ez_219 hp_d_fresh
                            refine k_join (fun b_222 => (((b_222 = 0 ∨ True) ∧ IV b_222 0 1) ∧ ((((z_219 ≤ (0 : Int32)) ∧ (b_222 = 0)) ∨ ((¬ (z_219 ≤ (0 : Int32))) ∧ (b_222 = 1)))))) 230 [.ref sr_218, .ref h0] (fun hJ => ?_) (fun b_222 hb_223 => ?_)
                            · skip
                              refine k_if_le 229 X dX11_readLine_222 (by decide) (fun h_226 => ?_) (fun h_226 => ?_)
                              · skip
                                have j_227 : z_219.toInt ≤ 0 := iv_le h_226
                                have iv_228 : IV z_219 0 0 := iv_leL (iv_le h_226) iv_221 (show IV 0 0 0 from (by decide)) (by decide)
                                refine k_iconst (v := 0) X dX11_readLine_229 (by decide) ?_
                                exact hJ 0 ⟨⟨by first | exact Or.inl rfl | exact Or.inr trivial | exact Or.inr (by omega), by decide⟩, (Or.inl ⟨h_226, rfl⟩)⟩
                              · skip
                                have j_229 : 0 < z_219.toInt := iv_nle h_226
                                have iv_230 : IV z_219 1 8 := iv_ltR (iv_nle h_226) (show IV 0 0 0 from (by decide)) iv_221 (by decide)
                                refine k_iconst (v := 1) X dX11_readLine_225 (by decide) ?_
                                refine k_goto 230 X dX11_readLine_226 (by decide) ?_
                                exact hJ 1 ⟨⟨by first | exact Or.inl rfl | exact Or.inr trivial | exact Or.inr (by omega), by decide⟩, (Or.inr ⟨h_226, rfl⟩)⟩
                            · skip
                              obtain ⟨⟨hb_223, hv_224⟩, hj_225⟩ := hb_223
                              refine k_callVI (n := 2) (As := [.ref sr_218, .int b_222]) (st := []) X [(cO11_i1r1i10r1i2r5i2r12i3r4i2 h0 m_thrown a_tape m_taped m_size m_at2_196 m_end2_197 m_token2_203 m_whole2_204 m_nameSize2_201 m_fault2_199 m_place2_202 m_trouble a_letters m_failed2_198 m_hasHouse a_r a_fresh a_st a_undone a_kept m_undos m_images a_from a_begin a_motor a_change a_startFrame a_changeFrame a_lostAt a_blackAt a_slips a_leftArc a_died a_arcs m_bestSum m_nearest m_nearestTown a_there a_backAt a_sorted a_parts m_seed1 m_darkNow), (cAI g a_tape 900 d_tape), (cAI g a_letters 8 d_letters2_200), (cAI g a_fresh 311 d_fresh)] [] [0, 1, 2, 3] [] (m_opensOnceX l g h0 sr_218 b_222 m_thrown a_tape m_taped m_size m_at2_196 m_end2_197 m_token2_203 m_whole2_204 m_nameSize2_201 m_fault2_199 m_place2_202 m_trouble a_letters m_failed2_198 m_hasHouse a_r a_fresh a_st a_undone a_kept m_undos m_images a_from a_begin a_motor a_change a_startFrame a_changeFrame a_lostAt a_blackAt a_slips a_leftArc a_died a_arcs m_bestSum m_nearest m_nearestTown a_there a_backAt a_sorted a_parts m_seed1 m_darkNow d_tape d_letters2_200 d_fresh ("shows") (iv_w hv_224 (by decide) (by decide)) (iv_w hv_m_size (by decide) (by decide)) (iv_w iv_206 (by decide) (by decide)) (iv_w iv_208 (by decide) (by decide)) (iv_w iv_207 (by decide) (by decide)) hp_d_fresh hsr_218 hk_215) dX11_readLine_230 mw595 mw596 mw597 mw5 mw598 rfl 11 rfl rfl 0 _ rfl yk_yX11_opensOnce_2 rfl (Nat.le_of_ble_eq_true rfl) (Nat.le_of_ble_eq_true rfl) (Nat.le_of_ble_eq_true rfl) (Nat.le_of_ble_eq_true rfl) (Nat.le_of_ble_eq_true rfl) rfl rfl (by decide) rfl (by decide) (by decide) ?_
                              intro r_240 w zq
                              refine exE9 zq ?_
                              clear zq
                              intro m_at2_231 m_end2_232 m_failed2_233 m_fault2_234 d_letters2_235 m_nameSize2_236 m_place2_237 m_token2_238 m_whole2_239 iv_241 zq
                              refine exA8 zq ?_
                              clear zq
                              intro iv_242 iv_243 iv_244 hq_245 hq_246 hq_247 hk_248 hk_249 zq
                              subst zq
                              refine k_ws [(cO11_i1r1i10r1i2r5i2r12i3r4i2 h0 m_thrown a_tape m_taped m_size m_at2_231 m_end2_232 m_token2_238 m_whole2_239 m_nameSize2_236 m_fault2_234 m_place2_237 m_trouble a_letters m_failed2_233 m_hasHouse a_r a_fresh a_st a_undone a_kept m_undos m_images a_from a_begin a_motor a_change a_startFrame a_changeFrame a_lostAt a_blackAt a_slips a_leftArc a_died a_arcs m_bestSum m_nearest m_nearestTown a_there a_backAt a_sorted a_parts m_seed1 m_darkNow), (cAI g a_tape 900 d_tape), (cAI g a_letters 8 d_letters2_235), (cAI g a_fresh 311 d_fresh)] rfl ?_
                              refine k_if_eq 243 X dX11_readLine_233 (by decide) (fun h_250 => ?_) (fun h_250 => ?_)
                              · skip
                                have iv_251 : IV r_240 0 0 := iv_meet iv_244 (iv_e h_250 (show IV 0 0 0 from (by decide))) (by decide) (by decide)
                                refine k_aload_n X dX11_readLine_243 0 rfl ?_
                                refine k_ldcS (tx := "boys") X dX11_readLine_244 (by decide +kernel) (fun sr_252 hsr_252 => ?_)
                                refine k_aload_n X dX11_readLine_246 0 rfl ?_
                                refine k_get (ci := 11) X inlX11 rfl 16 (by decide) dX11_readLine_247 mw171 0 rfl rfl ?_
                                refine k_sipush (v := 134) X dX11_readLine_250 (by decide) ?_
                                refine k_iald X dX11_readLine_253 3 rfl (by unfold vp_in; decide) ?_
                                refine k_nm (fun z_253 ez_253 => ?_)
                                have i_254 : z_253.toInt = (d_fresh 134).toInt := by rw [ez_253]; rfl
                                have iv_255 : IV z_253 0 4 := rb_134 ez_253 hp_d_fresh
                                refine k_join (fun b_256 => (((b_256 = 0 ∨ True) ∧ IV b_256 0 1) ∧ ((((z_253 ≤ (0 : Int32)) ∧ (b_256 = 0)) ∨ ((¬ (z_253 ≤ (0 : Int32))) ∧ (b_256 = 1)))))) 262 [.ref sr_252, .ref h0] (fun hJ => ?_) (fun b_256 hb_257 => ?_)
                                · skip
                                  refine k_if_le 261 X dX11_readLine_254 (by decide) (fun h_260 => ?_) (fun h_260 => ?_)
                                  · skip
                                    have j_261 : z_253.toInt ≤ 0 := iv_le h_260
                                    have iv_262 : IV z_253 0 0 := iv_leL (iv_le h_260) iv_255 (show IV 0 0 0 from (by decide)) (by decide)
                                    refine k_iconst (v := 0) X dX11_readLine_261 (by decide) ?_
                                    exact hJ 0 ⟨⟨by first | exact Or.inl rfl | exact Or.inr trivial | exact Or.inr (by omega), by decide⟩, (Or.inl ⟨h_260, rfl⟩)⟩
                                  · skip
                                    have j_263 : 0 < z_253.toInt := iv_nle h_260
                                    have iv_264 : IV z_253 1 4 := iv_ltR (iv_nle h_260) (show IV 0 0 0 from (by decide)) iv_255 (by decide)
                                    refine k_iconst (v := 1) X dX11_readLine_257 (by decide) ?_
                                    refine k_goto 262 X dX11_readLine_258 (by decide) ?_
                                    exact hJ 1 ⟨⟨by first | exact Or.inl rfl | exact Or.inr trivial | exact Or.inr (by omega), by decide⟩, (Or.inr ⟨h_260, rfl⟩)⟩
                                · skip
                                  obtain ⟨⟨hb_257, hv_258⟩, hj_259⟩ := hb_257
                                  refine k_callVI (n := 2) (As := [.ref sr_252, .int b_256]) (st := []) X [(cO11_i1r1i10r1i2r5i2r12i3r4i2 h0 m_thrown a_tape m_taped m_size m_at2_231 m_end2_232 m_token2_238 m_whole2_239 m_nameSize2_236 m_fault2_234 m_place2_237 m_trouble a_letters m_failed2_233 m_hasHouse a_r a_fresh a_st a_undone a_kept m_undos m_images a_from a_begin a_motor a_change a_startFrame a_changeFrame a_lostAt a_blackAt a_slips a_leftArc a_died a_arcs m_bestSum m_nearest m_nearestTown a_there a_backAt a_sorted a_parts m_seed1 m_darkNow), (cAI g a_tape 900 d_tape), (cAI g a_letters 8 d_letters2_235), (cAI g a_fresh 311 d_fresh)] [] [0, 1, 2, 3] [] (m_opensOnceX l g h0 sr_252 b_256 m_thrown a_tape m_taped m_size m_at2_231 m_end2_232 m_token2_238 m_whole2_239 m_nameSize2_236 m_fault2_234 m_place2_237 m_trouble a_letters m_failed2_233 m_hasHouse a_r a_fresh a_st a_undone a_kept m_undos m_images a_from a_begin a_motor a_change a_startFrame a_changeFrame a_lostAt a_blackAt a_slips a_leftArc a_died a_arcs m_bestSum m_nearest m_nearestTown a_there a_backAt a_sorted a_parts m_seed1 m_darkNow d_tape d_letters2_235 d_fresh ("boys") (iv_w hv_258 (by decide) (by decide)) (iv_w hv_m_size (by decide) (by decide)) (iv_w iv_241 (by decide) (by decide)) (iv_w iv_243 (by decide) (by decide)) (iv_w iv_242 (by decide) (by decide)) hp_d_fresh hsr_252 hk_249) dX11_readLine_262 mw595 mw596 mw597 mw5 mw598 rfl 11 rfl rfl 0 _ rfl yk_yX11_opensOnce_2 rfl (Nat.le_of_ble_eq_true rfl) (Nat.le_of_ble_eq_true rfl) (Nat.le_of_ble_eq_true rfl) (Nat.le_of_ble_eq_true rfl) (Nat.le_of_ble_eq_true rfl) rfl rfl (by decide) rfl (by decide) (by decide) ?_
                                  intro r_274 w zq
                                  refine exE9 zq ?_
                                  clear zq
                                  intro m_at2_265 m_end2_266 m_failed2_267 m_fault2_268 d_letters2_269 m_nameSize2_270 m_place2_271 m_token2_272 m_whole2_273 iv_275 zq
                                  refine exA8 zq ?_
                                  clear zq
                                  intro iv_276 iv_277 iv_278 hq_279 hq_280 hq_281 hk_282 hk_283 zq
                                  subst zq
                                  refine k_ws [(cO11_i1r1i10r1i2r5i2r12i3r4i2 h0 m_thrown a_tape m_taped m_size m_at2_265 m_end2_266 m_token2_272 m_whole2_273 m_nameSize2_270 m_fault2_268 m_place2_271 m_trouble a_letters m_failed2_267 m_hasHouse a_r a_fresh a_st a_undone a_kept m_undos m_images a_from a_begin a_motor a_change a_startFrame a_changeFrame a_lostAt a_blackAt a_slips a_leftArc a_died a_arcs m_bestSum m_nearest m_nearestTown a_there a_backAt a_sorted a_parts m_seed1 m_darkNow), (cAI g a_tape 900 d_tape), (cAI g a_letters 8 d_letters2_269), (cAI g a_fresh 311 d_fresh)] rfl ?_
                                  refine k_if_eq 275 X dX11_readLine_265 (by decide) (fun h_284 => ?_) (fun h_284 => ?_)
                                  · skip
                                    have iv_285 : IV r_274 0 0 := iv_meet iv_278 (iv_e h_284 (show IV 0 0 0 from (by decide))) (by decide) (by decide)
                                    refine k_aload_n X dX11_readLine_275 0 rfl ?_
                                    refine k_ldcS (tx := "seen") X dX11_readLine_276 (by decide +kernel) (fun sr_286 hsr_286 => ?_)
                                    refine k_callVI (n := 1) (As := [.ref sr_286]) (st := []) X [(cO11_i1r1i10r1i2r5i2r12i3r4i2 h0 m_thrown a_tape m_taped m_size m_at2_265 m_end2_266 m_token2_272 m_whole2_273 m_nameSize2_270 m_fault2_268 m_place2_271 m_trouble a_letters m_failed2_267 m_hasHouse a_r a_fresh a_st a_undone a_kept m_undos m_images a_from a_begin a_motor a_change a_startFrame a_changeFrame a_lostAt a_blackAt a_slips a_leftArc a_died a_arcs m_bestSum m_nearest m_nearestTown a_there a_backAt a_sorted a_parts m_seed1 m_darkNow), (cAI g a_letters 8 d_letters2_269)] [(cAI g a_tape 900 d_tape), (cAI g a_fresh 311 d_fresh)] [0, 2] [1, 3] (m_isWordX l g h0 sr_286 m_thrown a_tape m_taped m_size m_at2_265 m_end2_266 m_token2_272 m_whole2_273 m_nameSize2_270 m_fault2_268 m_place2_271 m_trouble a_letters m_failed2_267 m_hasHouse a_r a_fresh a_st a_undone a_kept m_undos m_images a_from a_begin a_motor a_change a_startFrame a_changeFrame a_lostAt a_blackAt a_slips a_leftArc a_died a_arcs m_bestSum m_nearest m_nearestTown a_there a_backAt a_sorted a_parts m_seed1 m_darkNow d_letters2_269 ("seen") (iv_w iv_277 (by decide) (by decide)) (iv_w iv_276 (by decide) (by decide)) hsr_286 hk_283) dX11_readLine_278 mw509 mw510 mw511 mw5 mw512 rfl 11 rfl rfl 0 _ rfl yk_yX11_isWord_1 rfl (Nat.le_of_ble_eq_true rfl) (Nat.le_of_ble_eq_true rfl) (Nat.le_of_ble_eq_true rfl) (Nat.le_of_ble_eq_true rfl) (Nat.le_of_ble_eq_true rfl) rfl rfl (by decide) rfl (by decide) (by decide) ?_
                                    rintro r_287 w ⟨iv_288, hq_289, hk_290, rfl⟩
                                    refine k_ws [(cAI g a_tape 900 d_tape), (cAI g a_fresh 311 d_fresh), (cO11_i1r1i10r1i2r5i2r12i3r4i2 h0 m_thrown a_tape m_taped m_size m_at2_265 m_end2_266 m_token2_272 m_whole2_273 m_nameSize2_270 m_fault2_268 m_place2_271 m_trouble a_letters m_failed2_267 m_hasHouse a_r a_fresh a_st a_undone a_kept m_undos m_images a_from a_begin a_motor a_change a_startFrame a_changeFrame a_lostAt a_blackAt a_slips a_leftArc a_died a_arcs m_bestSum m_nearest m_nearestTown a_there a_backAt a_sorted a_parts m_seed1 m_darkNow), (cAI g a_letters 8 d_letters2_269)] rfl ?_
                                    refine k_if_eq 291 X dX11_readLine_281 (by decide) (fun h_291 => ?_) (fun h_291 => ?_)
                                    · skip
                                      have iv_292 : IV r_287 0 0 := iv_meet iv_288 (iv_e h_291 (show IV 0 0 0 from (by decide))) (by decide) (by decide)
                                      refine k_aload_n X dX11_readLine_291 0 rfl ?_
                                      refine k_ldcS (tx := "scratch") X dX11_readLine_292 (by decide +kernel) (fun sr_293 hsr_293 => ?_)
                                      refine k_aload_n X dX11_readLine_294 0 rfl ?_
                                      refine k_get (ci := 11) X inlX11 rfl 16 (by decide) dX11_readLine_295 mw171 2 rfl rfl ?_
                                      refine k_bipush (v := 14) X dX11_readLine_298 (by decide) ?_
                                      refine k_iald X dX11_readLine_300 1 rfl (by unfold vp_in; decide) ?_
                                      refine k_nm (fun z_294 ez_294 => ?_)
                                      have i_295 : z_294.toInt = (d_fresh 14).toInt := by rw [ez_294]; rfl
                                      have iv_296 : IV z_294 0 6 := rb_14 ez_294 hp_d_fresh
                                      refine k_bipush (v := 6) X dX11_readLine_301 (by decide) ?_
                                      refine k_join (fun b_297 => (((b_297 = 0 ∨ z_294.toInt < 6) ∧ IV b_297 0 1) ∧ (((((6 : Int32) ≤ z_294) ∧ (b_297 = 0)) ∨ ((¬ ((6 : Int32) ≤ z_294)) ∧ (b_297 = 1)))))) 311 [.ref sr_293, .ref h0] (fun hJ => ?_) (fun b_297 hb_298 => ?_)
                                      · skip
                                        refine k_ic_ge 310 X dX11_readLine_303 (by decide) (fun h_301 => ?_) (fun h_301 => ?_)
                                        · skip
                                          have j_302 : 6 ≤ z_294.toInt := iv_le h_301
                                          have iv_303 : IV z_294 6 6 := iv_leR (iv_le h_301) (show IV 6 6 6 from (by decide)) iv_296 (by decide)
                                          refine k_iconst (v := 0) X dX11_readLine_310 (by decide) ?_
                                          exact hJ 0 ⟨⟨by first | exact Or.inl rfl | exact Or.inr trivial | exact Or.inr (by omega), by decide⟩, (Or.inl ⟨h_301, rfl⟩)⟩
                                        · skip
                                          have j_304 : z_294.toInt < 6 := iv_nle h_301
                                          have iv_305 : IV z_294 0 5 := iv_ltL (iv_nle h_301) iv_296 (show IV 6 6 6 from (by decide)) (by decide)
                                          refine k_iconst (v := 1) X dX11_readLine_306 (by decide) ?_
                                          refine k_goto 311 X dX11_readLine_307 (by decide) ?_
                                          exact hJ 1 ⟨⟨by first | exact Or.inl rfl | exact Or.inr trivial | exact Or.inr (by omega), by decide⟩, (Or.inr ⟨h_301, rfl⟩)⟩
                                      · skip
                                        obtain ⟨⟨hb_298, hv_299⟩, hj_300⟩ := hb_298
                                        refine k_callVI (n := 2) (As := [.ref sr_293, .int b_297]) (st := []) X [(cO11_i1r1i10r1i2r5i2r12i3r4i2 h0 m_thrown a_tape m_taped m_size m_at2_265 m_end2_266 m_token2_272 m_whole2_273 m_nameSize2_270 m_fault2_268 m_place2_271 m_trouble a_letters m_failed2_267 m_hasHouse a_r a_fresh a_st a_undone a_kept m_undos m_images a_from a_begin a_motor a_change a_startFrame a_changeFrame a_lostAt a_blackAt a_slips a_leftArc a_died a_arcs m_bestSum m_nearest m_nearestTown a_there a_backAt a_sorted a_parts m_seed1 m_darkNow), (cAI g a_tape 900 d_tape), (cAI g a_letters 8 d_letters2_269), (cAI g a_fresh 311 d_fresh)] [] [2, 0, 3, 1] [] (m_opensX l g h0 sr_293 b_297 m_thrown a_tape m_taped m_size m_at2_265 m_end2_266 m_token2_272 m_whole2_273 m_nameSize2_270 m_fault2_268 m_place2_271 m_trouble a_letters m_failed2_267 m_hasHouse a_r a_fresh a_st a_undone a_kept m_undos m_images a_from a_begin a_motor a_change a_startFrame a_changeFrame a_lostAt a_blackAt a_slips a_leftArc a_died a_arcs m_bestSum m_nearest m_nearestTown a_there a_backAt a_sorted a_parts m_seed1 m_darkNow d_tape d_letters2_269 d_fresh ("scratch") (iv_w hv_299 (by decide) (by decide)) (iv_w hv_m_size (by decide) (by decide)) (iv_w iv_275 (by decide) (by decide)) (iv_w iv_277 (by decide) (by decide)) (iv_w iv_276 (by decide) (by decide)) hp_d_fresh hsr_293 hk_283) dX11_readLine_311 mw543 mw544 mw545 mw5 mw546 rfl 11 rfl rfl 0 _ rfl yk_yX11_opens_2 rfl (Nat.le_of_ble_eq_true rfl) (Nat.le_of_ble_eq_true rfl) (Nat.le_of_ble_eq_true rfl) (Nat.le_of_ble_eq_true rfl) (Nat.le_of_ble_eq_true rfl) rfl rfl (by decide) rfl (by decide) (by decide) ?_
                                        intro r_315 w zq
                                        refine exE9 zq ?_
                                        clear zq
                                        intro m_at2_306 m_end2_307 m_failed2_308 m_fault2_309 d_letters2_310 m_nameSize2_311 m_place2_312 m_token2_313 m_whole2_314 iv_316 zq
                                        refine exA9 zq ?_
                                        clear zq
                                        intro iv_317 iv_318 iv_319 hq_320 hq_321 hq_322 hq_323 hk_324 hk_325 zq
                                        subst zq
                                        refine k_ws [(cO11_i1r1i10r1i2r5i2r12i3r4i2 h0 m_thrown a_tape m_taped m_size m_at2_306 m_end2_307 m_token2_313 m_whole2_314 m_nameSize2_311 m_fault2_309 m_place2_312 m_trouble a_letters m_failed2_308 m_hasHouse a_r a_fresh a_st a_undone a_kept m_undos m_images a_from a_begin a_motor a_change a_startFrame a_changeFrame a_lostAt a_blackAt a_slips a_leftArc a_died a_arcs m_bestSum m_nearest m_nearestTown a_there a_backAt a_sorted a_parts m_seed1 m_darkNow), (cAI g a_tape 900 d_tape), (cAI g a_letters 8 d_letters2_310), (cAI g a_fresh 311 d_fresh)] rfl ?_
                                        refine k_if_eq 324 X dX11_readLine_314 (by decide) (fun h_326 => ?_) (fun h_326 => ?_)
                                        · skip
                                          have iv_327 : IV r_315 0 0 := iv_meet iv_319 (iv_e h_326 (show IV 0 0 0 from (by decide))) (by decide) (by decide)
                                          refine k_aload_n X dX11_readLine_324 0 rfl ?_
                                          refine k_iconst (v := 1) X dX11_readLine_325 (by decide) ?_
                                          refine k_aload_n X dX11_readLine_326 0 rfl ?_
                                          refine k_get (ci := 11) X inlX11 rfl 4 (by decide) dX11_readLine_327 mw473 0 rfl rfl ?_
                                          refine k_callVV (n := 2) (As := [.int 1, .int m_at2_306]) (st := []) X [(cO11_i1r1i10r1i2r5i2r12i3r4i2 h0 m_thrown a_tape m_taped m_size m_at2_306 m_end2_307 m_token2_313 m_whole2_314 m_nameSize2_311 m_fault2_309 m_place2_312 m_trouble a_letters m_failed2_308 m_hasHouse a_r a_fresh a_st a_undone a_kept m_undos m_images a_from a_begin a_motor a_change a_startFrame a_changeFrame a_lostAt a_blackAt a_slips a_leftArc a_died a_arcs m_bestSum m_nearest m_nearestTown a_there a_backAt a_sorted a_parts m_seed1 m_darkNow)] [(cAI g a_tape 900 d_tape), (cAI g a_letters 8 d_letters2_310), (cAI g a_fresh 311 d_fresh)] [0] [1, 2, 3] (m_badX l g h0 1 m_at2_306 m_thrown a_tape m_taped m_size m_at2_306 m_end2_307 m_token2_313 m_whole2_314 m_nameSize2_311 m_fault2_309 m_place2_312 m_trouble a_letters m_failed2_308 m_hasHouse a_r a_fresh a_st a_undone a_kept m_undos m_images a_from a_begin a_motor a_change a_startFrame a_changeFrame a_lostAt a_blackAt a_slips a_leftArc a_died a_arcs m_bestSum m_nearest m_nearestTown a_there a_backAt a_sorted a_parts m_seed1 m_darkNow (iv_w iv_317 (by decide) (by decide))) dX11_readLine_330 mw519 mw520 mw521 mw5 mw522 rfl 11 rfl rfl 0 _ rfl yk_yX11_bad_2 rfl (Nat.le_of_ble_eq_true rfl) (Nat.le_of_ble_eq_true rfl) (Nat.le_of_ble_eq_true rfl) (Nat.le_of_ble_eq_true rfl) (Nat.le_of_ble_eq_true rfl) rfl rfl (by decide) rfl (by decide) (by decide) ?_
                                          rintro w ⟨m_failed2_328, m_fault2_329, m_place2_330, iv_332, hq_333, rfl⟩
                                          refine k_ws [(cAI g a_tape 900 d_tape), (cAI g a_letters 8 d_letters2_310), (cAI g a_fresh 311 d_fresh), (cO11_i1r1i10r1i2r5i2r12i3r4i2 h0 m_thrown a_tape m_taped m_size m_at2_306 m_end2_307 m_token2_313 m_whole2_314 m_nameSize2_311 m_fault2_329 m_place2_330 m_trouble a_letters m_failed2_328 m_hasHouse a_r a_fresh a_st a_undone a_kept m_undos m_images a_from a_begin a_motor a_change a_startFrame a_changeFrame a_lostAt a_blackAt a_slips a_leftArc a_died a_arcs m_bestSum m_nearest m_nearestTown a_there a_backAt a_sorted a_parts m_seed1 m_darkNow)] rfl ?_
                                          exact k_vret X hr dX11_readLine_333 (Nat.le_of_ble_eq_true rfl) (Nat.le_of_ble_eq_true rfl) [3, 0, 1, 2] (by decide) rfl rfl ⟨m_at2_306, m_end2_307, m_failed2_328, m_fault2_329, d_fresh, d_letters2_310, m_nameSize2_311, m_place2_330, m_token2_313, m_whole2_314, (iv_w iv_316 (by decide) (by decide)), (iv_w iv_332 (by decide) (by decide)), (iv_w iv_318 (by decide) (by decide)), hp_d_fresh, (by omega), (by omega), hr_0, ⟨r_2, hq_4, (Or.inl ⟨h_6, ⟨z_9, ez_9, ⟨b_12, hj_15, ⟨m_at2_21, m_end2_22, m_failed2_23, m_fault2_24, d_letters2_25, m_nameSize2_26, m_place2_27, m_token2_28, m_whole2_29, r_30, hq_38, (Or.inl ⟨h_41, ⟨z_44, ez_44, ⟨b_47, hj_50, ⟨m_at2_56, m_end2_57, m_failed2_58, m_fault2_59, d_letters2_60, m_nameSize2_61, m_place2_62, m_token2_63, m_whole2_64, r_65, hq_73, (Or.inl ⟨h_76, ⟨z_79, ez_79, ⟨b_82, hj_85, ⟨m_at2_91, m_end2_92, m_failed2_93, m_fault2_94, d_letters2_95, m_nameSize2_96, m_place2_97, m_token2_98, m_whole2_99, r_100, hq_108, (Or.inl ⟨h_111, ⟨z_114, ez_114, ⟨b_117, hj_120, ⟨m_at2_126, m_end2_127, m_failed2_128, m_fault2_129, d_letters2_130, m_nameSize2_131, m_place2_132, m_token2_133, m_whole2_134, r_135, hq_143, (Or.inl ⟨h_146, ⟨z_149, ez_149, ⟨b_152, hj_155, ⟨m_at2_161, m_end2_162, m_failed2_163, m_fault2_164, d_letters2_165, m_nameSize2_166, m_place2_167, m_token2_168, m_whole2_169, r_170, hq_178, (Or.inl ⟨h_181, ⟨z_184, ez_184, ⟨b_187, hj_190, ⟨m_at2_196, m_end2_197, m_failed2_198, m_fault2_199, d_letters2_200, m_nameSize2_201, m_place2_202, m_token2_203, m_whole2_204, r_205, hq_213, (Or.inl ⟨h_216, ⟨z_219, ez_219, ⟨b_222, hj_225, ⟨m_at2_231, m_end2_232, m_failed2_233, m_fault2_234, d_letters2_235, m_nameSize2_236, m_place2_237, m_token2_238, m_whole2_239, r_240, hq_247, (Or.inl ⟨h_250, ⟨z_253, ez_253, ⟨b_256, hj_259, ⟨m_at2_265, m_end2_266, m_failed2_267, m_fault2_268, d_letters2_269, m_nameSize2_270, m_place2_271, m_token2_272, m_whole2_273, r_274, hq_281, (Or.inl ⟨h_284, ⟨r_287, hq_289, (Or.inl ⟨h_291, ⟨z_294, ez_294, ⟨b_297, hj_300, ⟨m_at2_306, m_end2_307, m_failed2_308, m_fault2_309, d_letters2_310, m_nameSize2_311, m_place2_312, m_token2_313, m_whole2_314, r_315, hq_323, (Or.inl ⟨h_326, ⟨m_failed2_328, m_fault2_329, m_place2_330, hq_333, ⟨rfl, rfl, rfl, rfl, rfl, rfl, rfl, rfl, rfl, rfl⟩⟩⟩)⟩⟩⟩⟩)⟩⟩)⟩⟩⟩⟩)⟩⟩⟩⟩)⟩⟩⟩⟩)⟩⟩⟩⟩)⟩⟩⟩⟩)⟩⟩⟩⟩)⟩⟩⟩⟩)⟩⟩⟩⟩)⟩, hk_325, rfl⟩
                                        · skip
                                          have hc_334 := hk_324.resolve_left h_326
                                          have iv_335 : IV m_token2_272 2 2 := iv_meet (iv_any m_token2_272) hc_334 (by decide) (by decide)
                                          have hc_336 := hk_283 (iv_eq iv_335 (show IV 2 2 2 from (by decide)))
                                          have iv_337 : IV m_nameSize2_270 0 8 := iv_meet iv_277 hc_336 (by decide) (by decide)
                                          have iv_338 : IV r_315 1 1 := iv_neL h_326 iv_319 (show IV 0 0 0 from (by decide)) (by decide)
                                          refine k_aload_n X dX11_readLine_317 0 rfl ?_
                                          refine k_callVV (n := 0) (As := []) (st := []) X [(cO11_i1r1i10r1i2r5i2r12i3r4i2 h0 m_thrown a_tape m_taped m_size m_at2_306 m_end2_307 m_token2_313 m_whole2_314 m_nameSize2_311 m_fault2_309 m_place2_312 m_trouble a_letters m_failed2_308 m_hasHouse a_r a_fresh a_st a_undone a_kept m_undos m_images a_from a_begin a_motor a_change a_startFrame a_changeFrame a_lostAt a_blackAt a_slips a_leftArc a_died a_arcs m_bestSum m_nearest m_nearestTown a_there a_backAt a_sorted a_parts m_seed1 m_darkNow), (cAI g a_tape 900 d_tape), (cAI g a_letters 8 d_letters2_310), (cAI g a_fresh 311 d_fresh)] [] [0, 1, 2, 3] [] (m_scratchLineX l g h0 m_thrown a_tape m_taped m_size m_at2_306 m_end2_307 m_token2_313 m_whole2_314 m_nameSize2_311 m_fault2_309 m_place2_312 m_trouble a_letters m_failed2_308 m_hasHouse a_r a_fresh a_st a_undone a_kept m_undos m_images a_from a_begin a_motor a_change a_startFrame a_changeFrame a_lostAt a_blackAt a_slips a_leftArc a_died a_arcs m_bestSum m_nearest m_nearestTown a_there a_backAt a_sorted a_parts m_seed1 m_darkNow d_tape d_letters2_310 d_fresh (iv_w hv_m_size (by decide) (by decide)) (iv_w iv_316 (by decide) (by decide)) (iv_w iv_318 (by decide) (by decide)) (iv_w iv_317 (by decide) (by decide)) hp_d_fresh hr_0 (by rcases hq_320 with q | q | q; exact absurd q h_326; exact Or.inl q; exact Or.inr (by rcases hb_298 with z | z; exact absurd z q; omega)) hk_325) dX11_readLine_318 mw615 mw616 mw617 mw5 mw618 rfl 11 rfl rfl 0 _ rfl yk_yX11_scratchLine_0 rfl (Nat.le_of_ble_eq_true rfl) (Nat.le_of_ble_eq_true rfl) (Nat.le_of_ble_eq_true rfl) (Nat.le_of_ble_eq_true rfl) (Nat.le_of_ble_eq_true rfl) rfl rfl (by decide) rfl (by decide) (by decide) ?_
                                          intro w zq
                                          refine exE10 zq ?_
                                          clear zq
                                          intro m_at2_339 m_end2_340 m_failed2_341 m_fault2_342 d_fresh2_343 d_letters2_344 m_nameSize2_345 m_place2_346 m_token2_347 m_whole2_348 iv_350 zq
                                          refine exA7 zq ?_
                                          clear zq
                                          intro iv_351 iv_352 hp_353 hq_354 hq_355 hq_356 hk_357 zq
                                          subst zq
                                          refine k_ws [(cO11_i1r1i10r1i2r5i2r12i3r4i2 h0 m_thrown a_tape m_taped m_size m_at2_339 m_end2_340 m_token2_347 m_whole2_348 m_nameSize2_345 m_fault2_342 m_place2_346 m_trouble a_letters m_failed2_341 m_hasHouse a_r a_fresh a_st a_undone a_kept m_undos m_images a_from a_begin a_motor a_change a_startFrame a_changeFrame a_lostAt a_blackAt a_slips a_leftArc a_died a_arcs m_bestSum m_nearest m_nearestTown a_there a_backAt a_sorted a_parts m_seed1 m_darkNow), (cAI g a_tape 900 d_tape), (cAI g a_letters 8 d_letters2_344), (cAI g a_fresh 311 d_fresh2_343)] rfl ?_
                                          refine k_goto 333 X dX11_readLine_321 (by decide) ?_
                                          exact k_vret X hr dX11_readLine_333 (Nat.le_of_ble_eq_true rfl) (Nat.le_of_ble_eq_true rfl) [0, 1, 2, 3] (by decide) rfl rfl ⟨m_at2_339, m_end2_340, m_failed2_341, m_fault2_342, d_fresh2_343, d_letters2_344, m_nameSize2_345, m_place2_346, m_token2_347, m_whole2_348, (iv_w iv_350 (by decide) (by decide)), (iv_w iv_351 (by decide) (by decide)), (iv_w iv_352 (by decide) (by decide)), hp_353, (by omega), (by omega), hq_355, ⟨r_2, hq_4, (Or.inl ⟨h_6, ⟨z_9, ez_9, ⟨b_12, hj_15, ⟨m_at2_21, m_end2_22, m_failed2_23, m_fault2_24, d_letters2_25, m_nameSize2_26, m_place2_27, m_token2_28, m_whole2_29, r_30, hq_38, (Or.inl ⟨h_41, ⟨z_44, ez_44, ⟨b_47, hj_50, ⟨m_at2_56, m_end2_57, m_failed2_58, m_fault2_59, d_letters2_60, m_nameSize2_61, m_place2_62, m_token2_63, m_whole2_64, r_65, hq_73, (Or.inl ⟨h_76, ⟨z_79, ez_79, ⟨b_82, hj_85, ⟨m_at2_91, m_end2_92, m_failed2_93, m_fault2_94, d_letters2_95, m_nameSize2_96, m_place2_97, m_token2_98, m_whole2_99, r_100, hq_108, (Or.inl ⟨h_111, ⟨z_114, ez_114, ⟨b_117, hj_120, ⟨m_at2_126, m_end2_127, m_failed2_128, m_fault2_129, d_letters2_130, m_nameSize2_131, m_place2_132, m_token2_133, m_whole2_134, r_135, hq_143, (Or.inl ⟨h_146, ⟨z_149, ez_149, ⟨b_152, hj_155, ⟨m_at2_161, m_end2_162, m_failed2_163, m_fault2_164, d_letters2_165, m_nameSize2_166, m_place2_167, m_token2_168, m_whole2_169, r_170, hq_178, (Or.inl ⟨h_181, ⟨z_184, ez_184, ⟨b_187, hj_190, ⟨m_at2_196, m_end2_197, m_failed2_198, m_fault2_199, d_letters2_200, m_nameSize2_201, m_place2_202, m_token2_203, m_whole2_204, r_205, hq_213, (Or.inl ⟨h_216, ⟨z_219, ez_219, ⟨b_222, hj_225, ⟨m_at2_231, m_end2_232, m_failed2_233, m_fault2_234, d_letters2_235, m_nameSize2_236, m_place2_237, m_token2_238, m_whole2_239, r_240, hq_247, (Or.inl ⟨h_250, ⟨z_253, ez_253, ⟨b_256, hj_259, ⟨m_at2_265, m_end2_266, m_failed2_267, m_fault2_268, d_letters2_269, m_nameSize2_270, m_place2_271, m_token2_272, m_whole2_273, r_274, hq_281, (Or.inl ⟨h_284, ⟨r_287, hq_289, (Or.inl ⟨h_291, ⟨z_294, ez_294, ⟨b_297, hj_300, ⟨m_at2_306, m_end2_307, m_failed2_308, m_fault2_309, d_letters2_310, m_nameSize2_311, m_place2_312, m_token2_313, m_whole2_314, r_315, hq_323, (Or.inr ⟨h_326, ⟨m_at2_339, m_end2_340, m_failed2_341, m_fault2_342, d_fresh2_343, d_letters2_344, m_nameSize2_345, m_place2_346, m_token2_347, m_whole2_348, hq_356, ⟨rfl, rfl, rfl, rfl, rfl, rfl, rfl, rfl, rfl, rfl⟩⟩⟩)⟩⟩⟩⟩)⟩⟩)⟩⟩⟩⟩)⟩⟩⟩⟩)⟩⟩⟩⟩)⟩⟩⟩⟩)⟩⟩⟩⟩)⟩⟩⟩⟩)⟩⟩⟩⟩)⟩⟩⟩⟩)⟩, hk_357, rfl⟩
                                    · skip
                                      have hc_358 := hk_290.resolve_left h_291
                                      have iv_359 : IV m_token2_272 2 2 := iv_meet (iv_any m_token2_272) hc_358.1 (by decide) (by decide)
                                      have hc_360 := hk_283 (iv_eq iv_359 (show IV 2 2 2 from (by decide)))
                                      have iv_361 : IV m_nameSize2_270 0 8 := iv_meet iv_277 hc_360 (by decide) (by decide)
                                      have iv_362 : IV m_failed2_267 0 0 := iv_meet iv_276 hc_358.2 (by decide) (by decide)
                                      have iv_363 : IV r_287 1 1 := iv_neL h_291 iv_288 (show IV 0 0 0 from (by decide)) (by decide)
                                      refine k_aload_n X dX11_readLine_284 0 rfl ?_
                                      refine k_callVV (n := 0) (As := []) (st := []) X [(cO11_i1r1i10r1i2r5i2r12i3r4i2 h0 m_thrown a_tape m_taped m_size m_at2_265 m_end2_266 m_token2_272 m_whole2_273 m_nameSize2_270 m_fault2_268 m_place2_271 m_trouble a_letters m_failed2_267 m_hasHouse a_r a_fresh a_st a_undone a_kept m_undos m_images a_from a_begin a_motor a_change a_startFrame a_changeFrame a_lostAt a_blackAt a_slips a_leftArc a_died a_arcs m_bestSum m_nearest m_nearestTown a_there a_backAt a_sorted a_parts m_seed1 m_darkNow), (cAI g a_tape 900 d_tape), (cAI g a_letters 8 d_letters2_269), (cAI g a_fresh 311 d_fresh)] [] [2, 0, 3, 1] [] (m_seenLineX l g h0 m_thrown a_tape m_taped m_size m_at2_265 m_end2_266 m_token2_272 m_whole2_273 m_nameSize2_270 m_fault2_268 m_place2_271 m_trouble a_letters m_failed2_267 m_hasHouse a_r a_fresh a_st a_undone a_kept m_undos m_images a_from a_begin a_motor a_change a_startFrame a_changeFrame a_lostAt a_blackAt a_slips a_leftArc a_died a_arcs m_bestSum m_nearest m_nearestTown a_there a_backAt a_sorted a_parts m_seed1 m_darkNow d_tape d_letters2_269 d_fresh (iv_w hv_m_size (by decide) (by decide)) (iv_w iv_275 (by decide) (by decide)) (iv_w iv_361 (by decide) (by decide)) (iv_w iv_362 (by decide) (by decide)) hp_d_fresh hr_0 (fun _ => (iv_w iv_361 (by decide) (by decide)))) dX11_readLine_285 mw611 mw612 mw613 mw5 mw614 rfl 11 rfl rfl 0 _ rfl yk_yX11_seenLine_0 rfl (Nat.le_of_ble_eq_true rfl) (Nat.le_of_ble_eq_true rfl) (Nat.le_of_ble_eq_true rfl) (Nat.le_of_ble_eq_true rfl) (Nat.le_of_ble_eq_true rfl) rfl rfl (by decide) rfl (by decide) (by decide) ?_
                                      intro w zq
                                      refine exE10 zq ?_
                                      clear zq
                                      intro m_at2_364 m_end2_365 m_failed2_366 m_fault2_367 d_fresh2_368 d_letters2_369 m_nameSize2_370 m_place2_371 m_token2_372 m_whole2_373 iv_375 zq
                                      refine exA7 zq ?_
                                      clear zq
                                      intro iv_376 iv_377 hp_378 hq_379 hq_380 hq_381 hk_382 zq
                                      subst zq
                                      refine k_ws [(cO11_i1r1i10r1i2r5i2r12i3r4i2 h0 m_thrown a_tape m_taped m_size m_at2_364 m_end2_365 m_token2_372 m_whole2_373 m_nameSize2_370 m_fault2_367 m_place2_371 m_trouble a_letters m_failed2_366 m_hasHouse a_r a_fresh a_st a_undone a_kept m_undos m_images a_from a_begin a_motor a_change a_startFrame a_changeFrame a_lostAt a_blackAt a_slips a_leftArc a_died a_arcs m_bestSum m_nearest m_nearestTown a_there a_backAt a_sorted a_parts m_seed1 m_darkNow), (cAI g a_tape 900 d_tape), (cAI g a_letters 8 d_letters2_369), (cAI g a_fresh 311 d_fresh2_368)] rfl ?_
                                      refine k_goto 333 X dX11_readLine_288 (by decide) ?_
                                      exact k_vret X hr dX11_readLine_333 (Nat.le_of_ble_eq_true rfl) (Nat.le_of_ble_eq_true rfl) [0, 1, 2, 3] (by decide) rfl rfl ⟨m_at2_364, m_end2_365, m_failed2_366, m_fault2_367, d_fresh2_368, d_letters2_369, m_nameSize2_370, m_place2_371, m_token2_372, m_whole2_373, (iv_w iv_375 (by decide) (by decide)), (iv_w iv_376 (by decide) (by decide)), (iv_w iv_377 (by decide) (by decide)), hp_378, (by omega), (by omega), hq_380, ⟨r_2, hq_4, (Or.inl ⟨h_6, ⟨z_9, ez_9, ⟨b_12, hj_15, ⟨m_at2_21, m_end2_22, m_failed2_23, m_fault2_24, d_letters2_25, m_nameSize2_26, m_place2_27, m_token2_28, m_whole2_29, r_30, hq_38, (Or.inl ⟨h_41, ⟨z_44, ez_44, ⟨b_47, hj_50, ⟨m_at2_56, m_end2_57, m_failed2_58, m_fault2_59, d_letters2_60, m_nameSize2_61, m_place2_62, m_token2_63, m_whole2_64, r_65, hq_73, (Or.inl ⟨h_76, ⟨z_79, ez_79, ⟨b_82, hj_85, ⟨m_at2_91, m_end2_92, m_failed2_93, m_fault2_94, d_letters2_95, m_nameSize2_96, m_place2_97, m_token2_98, m_whole2_99, r_100, hq_108, (Or.inl ⟨h_111, ⟨z_114, ez_114, ⟨b_117, hj_120, ⟨m_at2_126, m_end2_127, m_failed2_128, m_fault2_129, d_letters2_130, m_nameSize2_131, m_place2_132, m_token2_133, m_whole2_134, r_135, hq_143, (Or.inl ⟨h_146, ⟨z_149, ez_149, ⟨b_152, hj_155, ⟨m_at2_161, m_end2_162, m_failed2_163, m_fault2_164, d_letters2_165, m_nameSize2_166, m_place2_167, m_token2_168, m_whole2_169, r_170, hq_178, (Or.inl ⟨h_181, ⟨z_184, ez_184, ⟨b_187, hj_190, ⟨m_at2_196, m_end2_197, m_failed2_198, m_fault2_199, d_letters2_200, m_nameSize2_201, m_place2_202, m_token2_203, m_whole2_204, r_205, hq_213, (Or.inl ⟨h_216, ⟨z_219, ez_219, ⟨b_222, hj_225, ⟨m_at2_231, m_end2_232, m_failed2_233, m_fault2_234, d_letters2_235, m_nameSize2_236, m_place2_237, m_token2_238, m_whole2_239, r_240, hq_247, (Or.inl ⟨h_250, ⟨z_253, ez_253, ⟨b_256, hj_259, ⟨m_at2_265, m_end2_266, m_failed2_267, m_fault2_268, d_letters2_269, m_nameSize2_270, m_place2_271, m_token2_272, m_whole2_273, r_274, hq_281, (Or.inl ⟨h_284, ⟨r_287, hq_289, (Or.inr ⟨h_291, ⟨m_at2_364, m_end2_365, m_failed2_366, m_fault2_367, d_fresh2_368, d_letters2_369, m_nameSize2_370, m_place2_371, m_token2_372, m_whole2_373, hq_381, ⟨rfl, rfl, rfl, rfl, rfl, rfl, rfl, rfl, rfl, rfl⟩⟩⟩)⟩⟩)⟩⟩⟩⟩)⟩⟩⟩⟩)⟩⟩⟩⟩)⟩⟩⟩⟩)⟩⟩⟩⟩)⟩⟩⟩⟩)⟩⟩⟩⟩)⟩⟩⟩⟩)⟩, hk_382, rfl⟩
                                  · skip
                                    have hc_383 := hk_282.resolve_left h_284
                                    have iv_384 : IV m_token2_238 2 2 := iv_meet (iv_any m_token2_238) hc_383 (by decide) (by decide)
                                    have hc_385 := hk_249 (iv_eq iv_384 (show IV 2 2 2 from (by decide)))
                                    have iv_386 : IV m_nameSize2_236 0 8 := iv_meet iv_243 hc_385 (by decide) (by decide)
                                    have iv_387 : IV r_274 1 1 := iv_neL h_284 iv_278 (show IV 0 0 0 from (by decide)) (by decide)
                                    refine k_aload_n X dX11_readLine_268 0 rfl ?_
                                    refine k_callVV (n := 0) (As := []) (st := []) X [(cO11_i1r1i10r1i2r5i2r12i3r4i2 h0 m_thrown a_tape m_taped m_size m_at2_265 m_end2_266 m_token2_272 m_whole2_273 m_nameSize2_270 m_fault2_268 m_place2_271 m_trouble a_letters m_failed2_267 m_hasHouse a_r a_fresh a_st a_undone a_kept m_undos m_images a_from a_begin a_motor a_change a_startFrame a_changeFrame a_lostAt a_blackAt a_slips a_leftArc a_died a_arcs m_bestSum m_nearest m_nearestTown a_there a_backAt a_sorted a_parts m_seed1 m_darkNow), (cAI g a_tape 900 d_tape), (cAI g a_letters 8 d_letters2_269), (cAI g a_fresh 311 d_fresh)] [] [0, 1, 2, 3] [] (m_boysLineX l g h0 m_thrown a_tape m_taped m_size m_at2_265 m_end2_266 m_token2_272 m_whole2_273 m_nameSize2_270 m_fault2_268 m_place2_271 m_trouble a_letters m_failed2_267 m_hasHouse a_r a_fresh a_st a_undone a_kept m_undos m_images a_from a_begin a_motor a_change a_startFrame a_changeFrame a_lostAt a_blackAt a_slips a_leftArc a_died a_arcs m_bestSum m_nearest m_nearestTown a_there a_backAt a_sorted a_parts m_seed1 m_darkNow d_tape d_letters2_269 d_fresh (iv_w hv_m_size (by decide) (by decide)) (iv_w iv_275 (by decide) (by decide)) (iv_w iv_277 (by decide) (by decide)) (iv_w iv_276 (by decide) (by decide)) hp_d_fresh hr_0 hk_283) dX11_readLine_269 mw607 mw608 mw609 mw5 mw610 rfl 11 rfl rfl 0 _ rfl yk_yX11_boysLine_0 rfl (Nat.le_of_ble_eq_true rfl) (Nat.le_of_ble_eq_true rfl) (Nat.le_of_ble_eq_true rfl) (Nat.le_of_ble_eq_true rfl) (Nat.le_of_ble_eq_true rfl) rfl rfl (by decide) rfl (by decide) (by decide) ?_
                                    intro w zq
                                    refine exE10 zq ?_
                                    clear zq
                                    intro m_at2_388 m_end2_389 m_failed2_390 m_fault2_391 d_fresh2_392 d_letters2_393 m_nameSize2_394 m_place2_395 m_token2_396 m_whole2_397 iv_399 zq
                                    refine exA7 zq ?_
                                    clear zq
                                    intro iv_400 iv_401 hp_402 hq_403 hq_404 hq_405 hk_406 zq
                                    subst zq
                                    refine k_ws [(cO11_i1r1i10r1i2r5i2r12i3r4i2 h0 m_thrown a_tape m_taped m_size m_at2_388 m_end2_389 m_token2_396 m_whole2_397 m_nameSize2_394 m_fault2_391 m_place2_395 m_trouble a_letters m_failed2_390 m_hasHouse a_r a_fresh a_st a_undone a_kept m_undos m_images a_from a_begin a_motor a_change a_startFrame a_changeFrame a_lostAt a_blackAt a_slips a_leftArc a_died a_arcs m_bestSum m_nearest m_nearestTown a_there a_backAt a_sorted a_parts m_seed1 m_darkNow), (cAI g a_tape 900 d_tape), (cAI g a_letters 8 d_letters2_393), (cAI g a_fresh 311 d_fresh2_392)] rfl ?_
                                    refine k_goto 333 X dX11_readLine_272 (by decide) ?_
                                    exact k_vret X hr dX11_readLine_333 (Nat.le_of_ble_eq_true rfl) (Nat.le_of_ble_eq_true rfl) [0, 1, 2, 3] (by decide) rfl rfl ⟨m_at2_388, m_end2_389, m_failed2_390, m_fault2_391, d_fresh2_392, d_letters2_393, m_nameSize2_394, m_place2_395, m_token2_396, m_whole2_397, (iv_w iv_399 (by decide) (by decide)), (iv_w iv_400 (by decide) (by decide)), (iv_w iv_401 (by decide) (by decide)), hp_402, (by omega), (by omega), hq_404, ⟨r_2, hq_4, (Or.inl ⟨h_6, ⟨z_9, ez_9, ⟨b_12, hj_15, ⟨m_at2_21, m_end2_22, m_failed2_23, m_fault2_24, d_letters2_25, m_nameSize2_26, m_place2_27, m_token2_28, m_whole2_29, r_30, hq_38, (Or.inl ⟨h_41, ⟨z_44, ez_44, ⟨b_47, hj_50, ⟨m_at2_56, m_end2_57, m_failed2_58, m_fault2_59, d_letters2_60, m_nameSize2_61, m_place2_62, m_token2_63, m_whole2_64, r_65, hq_73, (Or.inl ⟨h_76, ⟨z_79, ez_79, ⟨b_82, hj_85, ⟨m_at2_91, m_end2_92, m_failed2_93, m_fault2_94, d_letters2_95, m_nameSize2_96, m_place2_97, m_token2_98, m_whole2_99, r_100, hq_108, (Or.inl ⟨h_111, ⟨z_114, ez_114, ⟨b_117, hj_120, ⟨m_at2_126, m_end2_127, m_failed2_128, m_fault2_129, d_letters2_130, m_nameSize2_131, m_place2_132, m_token2_133, m_whole2_134, r_135, hq_143, (Or.inl ⟨h_146, ⟨z_149, ez_149, ⟨b_152, hj_155, ⟨m_at2_161, m_end2_162, m_failed2_163, m_fault2_164, d_letters2_165, m_nameSize2_166, m_place2_167, m_token2_168, m_whole2_169, r_170, hq_178, (Or.inl ⟨h_181, ⟨z_184, ez_184, ⟨b_187, hj_190, ⟨m_at2_196, m_end2_197, m_failed2_198, m_fault2_199, d_letters2_200, m_nameSize2_201, m_place2_202, m_token2_203, m_whole2_204, r_205, hq_213, (Or.inl ⟨h_216, ⟨z_219, ez_219, ⟨b_222, hj_225, ⟨m_at2_231, m_end2_232, m_failed2_233, m_fault2_234, d_letters2_235, m_nameSize2_236, m_place2_237, m_token2_238, m_whole2_239, r_240, hq_247, (Or.inl ⟨h_250, ⟨z_253, ez_253, ⟨b_256, hj_259, ⟨m_at2_265, m_end2_266, m_failed2_267, m_fault2_268, d_letters2_269, m_nameSize2_270, m_place2_271, m_token2_272, m_whole2_273, r_274, hq_281, (Or.inr ⟨h_284, ⟨m_at2_388, m_end2_389, m_failed2_390, m_fault2_391, d_fresh2_392, d_letters2_393, m_nameSize2_394, m_place2_395, m_token2_396, m_whole2_397, hq_405, ⟨rfl, rfl, rfl, rfl, rfl, rfl, rfl, rfl, rfl, rfl⟩⟩⟩)⟩⟩⟩⟩)⟩⟩⟩⟩)⟩⟩⟩⟩)⟩⟩⟩⟩)⟩⟩⟩⟩)⟩⟩⟩⟩)⟩⟩⟩⟩)⟩⟩⟩⟩)⟩, hk_406, rfl⟩
                              · skip
                                have hc_407 := hk_248.resolve_left h_250
                                have iv_408 : IV m_token2_203 2 2 := iv_meet (iv_any m_token2_203) hc_407 (by decide) (by decide)
                                have hc_409 := hk_215 (iv_eq iv_408 (show IV 2 2 2 from (by decide)))
                                have iv_410 : IV m_nameSize2_201 0 8 := iv_meet iv_208 hc_409 (by decide) (by decide)
                                have iv_411 : IV r_240 1 1 := iv_neL h_250 iv_244 (show IV 0 0 0 from (by decide)) (by decide)
                                refine k_aload_n X dX11_readLine_236 0 rfl ?_
                                refine k_callVV (n := 0) (As := []) (st := []) X [(cO11_i1r1i10r1i2r5i2r12i3r4i2 h0 m_thrown a_tape m_taped m_size m_at2_231 m_end2_232 m_token2_238 m_whole2_239 m_nameSize2_236 m_fault2_234 m_place2_237 m_trouble a_letters m_failed2_233 m_hasHouse a_r a_fresh a_st a_undone a_kept m_undos m_images a_from a_begin a_motor a_change a_startFrame a_changeFrame a_lostAt a_blackAt a_slips a_leftArc a_died a_arcs m_bestSum m_nearest m_nearestTown a_there a_backAt a_sorted a_parts m_seed1 m_darkNow), (cAI g a_tape 900 d_tape), (cAI g a_letters 8 d_letters2_235), (cAI g a_fresh 311 d_fresh)] [] [0, 1, 2, 3] [] (m_showsLineX l g h0 m_thrown a_tape m_taped m_size m_at2_231 m_end2_232 m_token2_238 m_whole2_239 m_nameSize2_236 m_fault2_234 m_place2_237 m_trouble a_letters m_failed2_233 m_hasHouse a_r a_fresh a_st a_undone a_kept m_undos m_images a_from a_begin a_motor a_change a_startFrame a_changeFrame a_lostAt a_blackAt a_slips a_leftArc a_died a_arcs m_bestSum m_nearest m_nearestTown a_there a_backAt a_sorted a_parts m_seed1 m_darkNow d_tape d_letters2_235 d_fresh (iv_w hv_m_size (by decide) (by decide)) (iv_w iv_241 (by decide) (by decide)) (iv_w iv_243 (by decide) (by decide)) (iv_w iv_242 (by decide) (by decide)) hp_d_fresh hr_0 hk_249) dX11_readLine_237 mw599 mw600 mw601 mw5 mw602 rfl 11 rfl rfl 0 _ rfl yk_yX11_showsLine_0 rfl (Nat.le_of_ble_eq_true rfl) (Nat.le_of_ble_eq_true rfl) (Nat.le_of_ble_eq_true rfl) (Nat.le_of_ble_eq_true rfl) (Nat.le_of_ble_eq_true rfl) rfl rfl (by decide) rfl (by decide) (by decide) ?_
                                intro w zq
                                refine exE10 zq ?_
                                clear zq
                                intro m_at2_412 m_end2_413 m_failed2_414 m_fault2_415 d_fresh2_416 d_letters2_417 m_nameSize2_418 m_place2_419 m_token2_420 m_whole2_421 iv_423 zq
                                refine exA7 zq ?_
                                clear zq
                                intro iv_424 iv_425 hp_426 hq_427 hq_428 hq_429 hk_430 zq
                                subst zq
                                refine k_ws [(cO11_i1r1i10r1i2r5i2r12i3r4i2 h0 m_thrown a_tape m_taped m_size m_at2_412 m_end2_413 m_token2_420 m_whole2_421 m_nameSize2_418 m_fault2_415 m_place2_419 m_trouble a_letters m_failed2_414 m_hasHouse a_r a_fresh a_st a_undone a_kept m_undos m_images a_from a_begin a_motor a_change a_startFrame a_changeFrame a_lostAt a_blackAt a_slips a_leftArc a_died a_arcs m_bestSum m_nearest m_nearestTown a_there a_backAt a_sorted a_parts m_seed1 m_darkNow), (cAI g a_tape 900 d_tape), (cAI g a_letters 8 d_letters2_417), (cAI g a_fresh 311 d_fresh2_416)] rfl ?_
                                refine k_goto 333 X dX11_readLine_240 (by decide) ?_
                                exact k_vret X hr dX11_readLine_333 (Nat.le_of_ble_eq_true rfl) (Nat.le_of_ble_eq_true rfl) [0, 1, 2, 3] (by decide) rfl rfl ⟨m_at2_412, m_end2_413, m_failed2_414, m_fault2_415, d_fresh2_416, d_letters2_417, m_nameSize2_418, m_place2_419, m_token2_420, m_whole2_421, (iv_w iv_423 (by decide) (by decide)), (iv_w iv_424 (by decide) (by decide)), (iv_w iv_425 (by decide) (by decide)), hp_426, (by omega), (by omega), hq_428, ⟨r_2, hq_4, (Or.inl ⟨h_6, ⟨z_9, ez_9, ⟨b_12, hj_15, ⟨m_at2_21, m_end2_22, m_failed2_23, m_fault2_24, d_letters2_25, m_nameSize2_26, m_place2_27, m_token2_28, m_whole2_29, r_30, hq_38, (Or.inl ⟨h_41, ⟨z_44, ez_44, ⟨b_47, hj_50, ⟨m_at2_56, m_end2_57, m_failed2_58, m_fault2_59, d_letters2_60, m_nameSize2_61, m_place2_62, m_token2_63, m_whole2_64, r_65, hq_73, (Or.inl ⟨h_76, ⟨z_79, ez_79, ⟨b_82, hj_85, ⟨m_at2_91, m_end2_92, m_failed2_93, m_fault2_94, d_letters2_95, m_nameSize2_96, m_place2_97, m_token2_98, m_whole2_99, r_100, hq_108, (Or.inl ⟨h_111, ⟨z_114, ez_114, ⟨b_117, hj_120, ⟨m_at2_126, m_end2_127, m_failed2_128, m_fault2_129, d_letters2_130, m_nameSize2_131, m_place2_132, m_token2_133, m_whole2_134, r_135, hq_143, (Or.inl ⟨h_146, ⟨z_149, ez_149, ⟨b_152, hj_155, ⟨m_at2_161, m_end2_162, m_failed2_163, m_fault2_164, d_letters2_165, m_nameSize2_166, m_place2_167, m_token2_168, m_whole2_169, r_170, hq_178, (Or.inl ⟨h_181, ⟨z_184, ez_184, ⟨b_187, hj_190, ⟨m_at2_196, m_end2_197, m_failed2_198, m_fault2_199, d_letters2_200, m_nameSize2_201, m_place2_202, m_token2_203, m_whole2_204, r_205, hq_213, (Or.inl ⟨h_216, ⟨z_219, ez_219, ⟨b_222, hj_225, ⟨m_at2_231, m_end2_232, m_failed2_233, m_fault2_234, d_letters2_235, m_nameSize2_236, m_place2_237, m_token2_238, m_whole2_239, r_240, hq_247, (Or.inr ⟨h_250, ⟨m_at2_412, m_end2_413, m_failed2_414, m_fault2_415, d_fresh2_416, d_letters2_417, m_nameSize2_418, m_place2_419, m_token2_420, m_whole2_421, hq_429, ⟨rfl, rfl, rfl, rfl, rfl, rfl, rfl, rfl, rfl, rfl⟩⟩⟩)⟩⟩⟩⟩)⟩⟩⟩⟩)⟩⟩⟩⟩)⟩⟩⟩⟩)⟩⟩⟩⟩)⟩⟩⟩⟩)⟩⟩⟩⟩)⟩, hk_430, rfl⟩
                          · skip
                            have hc_431 := hk_214.resolve_left h_216
                            have iv_432 : IV m_token2_168 2 2 := iv_meet (iv_any m_token2_168) hc_431 (by decide) (by decide)
                            have hc_433 := hk_180 (iv_eq iv_432 (show IV 2 2 2 from (by decide)))
                            have iv_434 : IV m_nameSize2_166 0 8 := iv_meet iv_173 hc_433 (by decide) (by decide)
                            have iv_435 : IV r_205 1 1 := iv_neL h_216 iv_209 (show IV 0 0 0 from (by decide)) (by decide)
                            refine k_aload_n X dX11_readLine_205 0 rfl ?_
                            refine k_callVV (n := 0) (As := []) (st := []) X [(cO11_i1r1i10r1i2r5i2r12i3r4i2 h0 m_thrown a_tape m_taped m_size m_at2_196 m_end2_197 m_token2_203 m_whole2_204 m_nameSize2_201 m_fault2_199 m_place2_202 m_trouble a_letters m_failed2_198 m_hasHouse a_r a_fresh a_st a_undone a_kept m_undos m_images a_from a_begin a_motor a_change a_startFrame a_changeFrame a_lostAt a_blackAt a_slips a_leftArc a_died a_arcs m_bestSum m_nearest m_nearestTown a_there a_backAt a_sorted a_parts m_seed1 m_darkNow), (cAI g a_tape 900 d_tape), (cAI g a_letters 8 d_letters2_200), (cAI g a_fresh 311 d_fresh)] [] [0, 1, 2, 3] [] (m_manLineX l g h0 m_thrown a_tape m_taped m_size m_at2_196 m_end2_197 m_token2_203 m_whole2_204 m_nameSize2_201 m_fault2_199 m_place2_202 m_trouble a_letters m_failed2_198 m_hasHouse a_r a_fresh a_st a_undone a_kept m_undos m_images a_from a_begin a_motor a_change a_startFrame a_changeFrame a_lostAt a_blackAt a_slips a_leftArc a_died a_arcs m_bestSum m_nearest m_nearestTown a_there a_backAt a_sorted a_parts m_seed1 m_darkNow d_tape d_letters2_200 d_fresh (iv_w hv_m_size (by decide) (by decide)) (iv_w iv_206 (by decide) (by decide)) (iv_w iv_208 (by decide) (by decide)) (iv_w iv_207 (by decide) (by decide)) hp_d_fresh hr_0 (by rcases hq_210 with q | q | q; exact absurd q h_216; exact Or.inl q; exact Or.inr (by rcases hb_188 with z | z; exact absurd z q; omega)) hk_215) dX11_readLine_206 mw591 mw592 mw593 mw5 mw594 rfl 11 rfl rfl 0 _ rfl yk_yX11_manLine_0 rfl (Nat.le_of_ble_eq_true rfl) (Nat.le_of_ble_eq_true rfl) (Nat.le_of_ble_eq_true rfl) (Nat.le_of_ble_eq_true rfl) (Nat.le_of_ble_eq_true rfl) rfl rfl (by decide) rfl (by decide) (by decide) ?_
                            intro w zq
                            refine exE10 zq ?_
                            clear zq
                            intro m_at2_436 m_end2_437 m_failed2_438 m_fault2_439 d_fresh2_440 d_letters2_441 m_nameSize2_442 m_place2_443 m_token2_444 m_whole2_445 iv_447 zq
                            refine exA7 zq ?_
                            clear zq
                            intro iv_448 iv_449 hp_450 hq_451 hq_452 hq_453 hk_454 zq
                            subst zq
                            refine k_ws [(cO11_i1r1i10r1i2r5i2r12i3r4i2 h0 m_thrown a_tape m_taped m_size m_at2_436 m_end2_437 m_token2_444 m_whole2_445 m_nameSize2_442 m_fault2_439 m_place2_443 m_trouble a_letters m_failed2_438 m_hasHouse a_r a_fresh a_st a_undone a_kept m_undos m_images a_from a_begin a_motor a_change a_startFrame a_changeFrame a_lostAt a_blackAt a_slips a_leftArc a_died a_arcs m_bestSum m_nearest m_nearestTown a_there a_backAt a_sorted a_parts m_seed1 m_darkNow), (cAI g a_tape 900 d_tape), (cAI g a_letters 8 d_letters2_441), (cAI g a_fresh 311 d_fresh2_440)] rfl ?_
                            refine k_goto 333 X dX11_readLine_209 (by decide) ?_
                            exact k_vret X hr dX11_readLine_333 (Nat.le_of_ble_eq_true rfl) (Nat.le_of_ble_eq_true rfl) [0, 1, 2, 3] (by decide) rfl rfl ⟨m_at2_436, m_end2_437, m_failed2_438, m_fault2_439, d_fresh2_440, d_letters2_441, m_nameSize2_442, m_place2_443, m_token2_444, m_whole2_445, (iv_w iv_447 (by decide) (by decide)), (iv_w iv_448 (by decide) (by decide)), (iv_w iv_449 (by decide) (by decide)), hp_450, (by omega), (by omega), hq_452, ⟨r_2, hq_4, (Or.inl ⟨h_6, ⟨z_9, ez_9, ⟨b_12, hj_15, ⟨m_at2_21, m_end2_22, m_failed2_23, m_fault2_24, d_letters2_25, m_nameSize2_26, m_place2_27, m_token2_28, m_whole2_29, r_30, hq_38, (Or.inl ⟨h_41, ⟨z_44, ez_44, ⟨b_47, hj_50, ⟨m_at2_56, m_end2_57, m_failed2_58, m_fault2_59, d_letters2_60, m_nameSize2_61, m_place2_62, m_token2_63, m_whole2_64, r_65, hq_73, (Or.inl ⟨h_76, ⟨z_79, ez_79, ⟨b_82, hj_85, ⟨m_at2_91, m_end2_92, m_failed2_93, m_fault2_94, d_letters2_95, m_nameSize2_96, m_place2_97, m_token2_98, m_whole2_99, r_100, hq_108, (Or.inl ⟨h_111, ⟨z_114, ez_114, ⟨b_117, hj_120, ⟨m_at2_126, m_end2_127, m_failed2_128, m_fault2_129, d_letters2_130, m_nameSize2_131, m_place2_132, m_token2_133, m_whole2_134, r_135, hq_143, (Or.inl ⟨h_146, ⟨z_149, ez_149, ⟨b_152, hj_155, ⟨m_at2_161, m_end2_162, m_failed2_163, m_fault2_164, d_letters2_165, m_nameSize2_166, m_place2_167, m_token2_168, m_whole2_169, r_170, hq_178, (Or.inl ⟨h_181, ⟨z_184, ez_184, ⟨b_187, hj_190, ⟨m_at2_196, m_end2_197, m_failed2_198, m_fault2_199, d_letters2_200, m_nameSize2_201, m_place2_202, m_token2_203, m_whole2_204, r_205, hq_213, (Or.inr ⟨h_216, ⟨m_at2_436, m_end2_437, m_failed2_438, m_fault2_439, d_fresh2_440, d_letters2_441, m_nameSize2_442, m_place2_443, m_token2_444, m_whole2_445, hq_453, ⟨rfl, rfl, rfl, rfl, rfl, rfl, rfl, rfl, rfl, rfl⟩⟩⟩)⟩⟩⟩⟩)⟩⟩⟩⟩)⟩⟩⟩⟩)⟩⟩⟩⟩)⟩⟩⟩⟩)⟩⟩⟩⟩)⟩, hk_454, rfl⟩
                      · skip
                        have hc_455 := hk_179.resolve_left h_181
                        have iv_456 : IV m_token2_133 2 2 := iv_meet (iv_any m_token2_133) hc_455 (by decide) (by decide)
                        have hc_457 := hk_145 (iv_eq iv_456 (show IV 2 2 2 from (by decide)))
                        have iv_458 : IV m_nameSize2_131 0 8 := iv_meet iv_138 hc_457 (by decide) (by decide)
                        have iv_459 : IV r_170 1 1 := iv_neL h_181 iv_174 (show IV 0 0 0 from (by decide)) (by decide)
                        refine k_aload_n X dX11_readLine_173 0 rfl ?_
                        refine k_callVV (n := 0) (As := []) (st := []) X [(cO11_i1r1i10r1i2r5i2r12i3r4i2 h0 m_thrown a_tape m_taped m_size m_at2_161 m_end2_162 m_token2_168 m_whole2_169 m_nameSize2_166 m_fault2_164 m_place2_167 m_trouble a_letters m_failed2_163 m_hasHouse a_r a_fresh a_st a_undone a_kept m_undos m_images a_from a_begin a_motor a_change a_startFrame a_changeFrame a_lostAt a_blackAt a_slips a_leftArc a_died a_arcs m_bestSum m_nearest m_nearestTown a_there a_backAt a_sorted a_parts m_seed1 m_darkNow), (cAI g a_tape 900 d_tape), (cAI g a_letters 8 d_letters2_165), (cAI g a_fresh 311 d_fresh)] [] [0, 1, 2, 3] [] (m_weakLineX l g h0 m_thrown a_tape m_taped m_size m_at2_161 m_end2_162 m_token2_168 m_whole2_169 m_nameSize2_166 m_fault2_164 m_place2_167 m_trouble a_letters m_failed2_163 m_hasHouse a_r a_fresh a_st a_undone a_kept m_undos m_images a_from a_begin a_motor a_change a_startFrame a_changeFrame a_lostAt a_blackAt a_slips a_leftArc a_died a_arcs m_bestSum m_nearest m_nearestTown a_there a_backAt a_sorted a_parts m_seed1 m_darkNow d_tape d_letters2_165 d_fresh (iv_w hv_m_size (by decide) (by decide)) (iv_w iv_171 (by decide) (by decide)) (iv_w iv_173 (by decide) (by decide)) (iv_w iv_172 (by decide) (by decide)) hp_d_fresh hr_0 (by rcases hq_175 with q | q | q; exact absurd q h_181; exact Or.inl q; exact Or.inr (by rcases hb_153 with z | z; exact absurd z q; omega)) hk_180) dX11_readLine_174 mw587 mw588 mw589 mw5 mw590 rfl 11 rfl rfl 0 _ rfl yk_yX11_weakLine_0 rfl (Nat.le_of_ble_eq_true rfl) (Nat.le_of_ble_eq_true rfl) (Nat.le_of_ble_eq_true rfl) (Nat.le_of_ble_eq_true rfl) (Nat.le_of_ble_eq_true rfl) rfl rfl (by decide) rfl (by decide) (by decide) ?_
                        intro w zq
                        refine exE10 zq ?_
                        clear zq
                        intro m_at2_460 m_end2_461 m_failed2_462 m_fault2_463 d_fresh2_464 d_letters2_465 m_nameSize2_466 m_place2_467 m_token2_468 m_whole2_469 iv_471 zq
                        refine exA7 zq ?_
                        clear zq
                        intro iv_472 iv_473 hp_474 hq_475 hq_476 hq_477 hk_478 zq
                        subst zq
                        refine k_ws [(cO11_i1r1i10r1i2r5i2r12i3r4i2 h0 m_thrown a_tape m_taped m_size m_at2_460 m_end2_461 m_token2_468 m_whole2_469 m_nameSize2_466 m_fault2_463 m_place2_467 m_trouble a_letters m_failed2_462 m_hasHouse a_r a_fresh a_st a_undone a_kept m_undos m_images a_from a_begin a_motor a_change a_startFrame a_changeFrame a_lostAt a_blackAt a_slips a_leftArc a_died a_arcs m_bestSum m_nearest m_nearestTown a_there a_backAt a_sorted a_parts m_seed1 m_darkNow), (cAI g a_tape 900 d_tape), (cAI g a_letters 8 d_letters2_465), (cAI g a_fresh 311 d_fresh2_464)] rfl ?_
                        refine k_goto 333 X dX11_readLine_177 (by decide) ?_
                        exact k_vret X hr dX11_readLine_333 (Nat.le_of_ble_eq_true rfl) (Nat.le_of_ble_eq_true rfl) [0, 1, 2, 3] (by decide) rfl rfl ⟨m_at2_460, m_end2_461, m_failed2_462, m_fault2_463, d_fresh2_464, d_letters2_465, m_nameSize2_466, m_place2_467, m_token2_468, m_whole2_469, (iv_w iv_471 (by decide) (by decide)), (iv_w iv_472 (by decide) (by decide)), (iv_w iv_473 (by decide) (by decide)), hp_474, (by omega), (by omega), hq_476, ⟨r_2, hq_4, (Or.inl ⟨h_6, ⟨z_9, ez_9, ⟨b_12, hj_15, ⟨m_at2_21, m_end2_22, m_failed2_23, m_fault2_24, d_letters2_25, m_nameSize2_26, m_place2_27, m_token2_28, m_whole2_29, r_30, hq_38, (Or.inl ⟨h_41, ⟨z_44, ez_44, ⟨b_47, hj_50, ⟨m_at2_56, m_end2_57, m_failed2_58, m_fault2_59, d_letters2_60, m_nameSize2_61, m_place2_62, m_token2_63, m_whole2_64, r_65, hq_73, (Or.inl ⟨h_76, ⟨z_79, ez_79, ⟨b_82, hj_85, ⟨m_at2_91, m_end2_92, m_failed2_93, m_fault2_94, d_letters2_95, m_nameSize2_96, m_place2_97, m_token2_98, m_whole2_99, r_100, hq_108, (Or.inl ⟨h_111, ⟨z_114, ez_114, ⟨b_117, hj_120, ⟨m_at2_126, m_end2_127, m_failed2_128, m_fault2_129, d_letters2_130, m_nameSize2_131, m_place2_132, m_token2_133, m_whole2_134, r_135, hq_143, (Or.inl ⟨h_146, ⟨z_149, ez_149, ⟨b_152, hj_155, ⟨m_at2_161, m_end2_162, m_failed2_163, m_fault2_164, d_letters2_165, m_nameSize2_166, m_place2_167, m_token2_168, m_whole2_169, r_170, hq_178, (Or.inr ⟨h_181, ⟨m_at2_460, m_end2_461, m_failed2_462, m_fault2_463, d_fresh2_464, d_letters2_465, m_nameSize2_466, m_place2_467, m_token2_468, m_whole2_469, hq_477, ⟨rfl, rfl, rfl, rfl, rfl, rfl, rfl, rfl, rfl, rfl⟩⟩⟩)⟩⟩⟩⟩)⟩⟩⟩⟩)⟩⟩⟩⟩)⟩⟩⟩⟩)⟩⟩⟩⟩)⟩, hk_478, rfl⟩
                  · skip
                    have hc_479 := hk_144.resolve_left h_146
                    have iv_480 : IV m_token2_98 2 2 := iv_meet (iv_any m_token2_98) hc_479 (by decide) (by decide)
                    have hc_481 := hk_110 (iv_eq iv_480 (show IV 2 2 2 from (by decide)))
                    have iv_482 : IV m_nameSize2_96 0 8 := iv_meet iv_103 hc_481 (by decide) (by decide)
                    have iv_483 : IV r_135 1 1 := iv_neL h_146 iv_139 (show IV 0 0 0 from (by decide)) (by decide)
                    refine k_aload_n X dX11_readLine_140 0 rfl ?_
                    refine k_callVV (n := 0) (As := []) (st := []) X [(cO11_i1r1i10r1i2r5i2r12i3r4i2 h0 m_thrown a_tape m_taped m_size m_at2_126 m_end2_127 m_token2_133 m_whole2_134 m_nameSize2_131 m_fault2_129 m_place2_132 m_trouble a_letters m_failed2_128 m_hasHouse a_r a_fresh a_st a_undone a_kept m_undos m_images a_from a_begin a_motor a_change a_startFrame a_changeFrame a_lostAt a_blackAt a_slips a_leftArc a_died a_arcs m_bestSum m_nearest m_nearestTown a_there a_backAt a_sorted a_parts m_seed1 m_darkNow), (cAI g a_tape 900 d_tape), (cAI g a_letters 8 d_letters2_130), (cAI g a_fresh 311 d_fresh)] [] [0, 1, 2, 3] [] (m_joinLineX l g h0 m_thrown a_tape m_taped m_size m_at2_126 m_end2_127 m_token2_133 m_whole2_134 m_nameSize2_131 m_fault2_129 m_place2_132 m_trouble a_letters m_failed2_128 m_hasHouse a_r a_fresh a_st a_undone a_kept m_undos m_images a_from a_begin a_motor a_change a_startFrame a_changeFrame a_lostAt a_blackAt a_slips a_leftArc a_died a_arcs m_bestSum m_nearest m_nearestTown a_there a_backAt a_sorted a_parts m_seed1 m_darkNow d_tape d_letters2_130 d_fresh (iv_w hv_m_size (by decide) (by decide)) (iv_w iv_136 (by decide) (by decide)) (iv_w iv_138 (by decide) (by decide)) (iv_w iv_137 (by decide) (by decide)) hp_d_fresh hr_0 (by rcases hq_140 with q | q | q; exact absurd q h_146; exact Or.inl q; exact Or.inr (by rcases hb_118 with z | z; exact absurd z q; omega)) hk_145) dX11_readLine_141 mw583 mw584 mw585 mw5 mw586 rfl 11 rfl rfl 0 _ rfl yk_yX11_joinLine_0 rfl (Nat.le_of_ble_eq_true rfl) (Nat.le_of_ble_eq_true rfl) (Nat.le_of_ble_eq_true rfl) (Nat.le_of_ble_eq_true rfl) (Nat.le_of_ble_eq_true rfl) rfl rfl (by decide) rfl (by decide) (by decide) ?_
                    intro w zq
                    refine exE10 zq ?_
                    clear zq
                    intro m_at2_484 m_end2_485 m_failed2_486 m_fault2_487 d_fresh2_488 d_letters2_489 m_nameSize2_490 m_place2_491 m_token2_492 m_whole2_493 iv_495 zq
                    refine exA7 zq ?_
                    clear zq
                    intro iv_496 iv_497 hp_498 hq_499 hq_500 hq_501 hk_502 zq
                    subst zq
                    refine k_ws [(cO11_i1r1i10r1i2r5i2r12i3r4i2 h0 m_thrown a_tape m_taped m_size m_at2_484 m_end2_485 m_token2_492 m_whole2_493 m_nameSize2_490 m_fault2_487 m_place2_491 m_trouble a_letters m_failed2_486 m_hasHouse a_r a_fresh a_st a_undone a_kept m_undos m_images a_from a_begin a_motor a_change a_startFrame a_changeFrame a_lostAt a_blackAt a_slips a_leftArc a_died a_arcs m_bestSum m_nearest m_nearestTown a_there a_backAt a_sorted a_parts m_seed1 m_darkNow), (cAI g a_tape 900 d_tape), (cAI g a_letters 8 d_letters2_489), (cAI g a_fresh 311 d_fresh2_488)] rfl ?_
                    refine k_goto 333 X dX11_readLine_144 (by decide) ?_
                    exact k_vret X hr dX11_readLine_333 (Nat.le_of_ble_eq_true rfl) (Nat.le_of_ble_eq_true rfl) [0, 1, 2, 3] (by decide) rfl rfl ⟨m_at2_484, m_end2_485, m_failed2_486, m_fault2_487, d_fresh2_488, d_letters2_489, m_nameSize2_490, m_place2_491, m_token2_492, m_whole2_493, (iv_w iv_495 (by decide) (by decide)), (iv_w iv_496 (by decide) (by decide)), (iv_w iv_497 (by decide) (by decide)), hp_498, (by omega), (by omega), hq_500, ⟨r_2, hq_4, (Or.inl ⟨h_6, ⟨z_9, ez_9, ⟨b_12, hj_15, ⟨m_at2_21, m_end2_22, m_failed2_23, m_fault2_24, d_letters2_25, m_nameSize2_26, m_place2_27, m_token2_28, m_whole2_29, r_30, hq_38, (Or.inl ⟨h_41, ⟨z_44, ez_44, ⟨b_47, hj_50, ⟨m_at2_56, m_end2_57, m_failed2_58, m_fault2_59, d_letters2_60, m_nameSize2_61, m_place2_62, m_token2_63, m_whole2_64, r_65, hq_73, (Or.inl ⟨h_76, ⟨z_79, ez_79, ⟨b_82, hj_85, ⟨m_at2_91, m_end2_92, m_failed2_93, m_fault2_94, d_letters2_95, m_nameSize2_96, m_place2_97, m_token2_98, m_whole2_99, r_100, hq_108, (Or.inl ⟨h_111, ⟨z_114, ez_114, ⟨b_117, hj_120, ⟨m_at2_126, m_end2_127, m_failed2_128, m_fault2_129, d_letters2_130, m_nameSize2_131, m_place2_132, m_token2_133, m_whole2_134, r_135, hq_143, (Or.inr ⟨h_146, ⟨m_at2_484, m_end2_485, m_failed2_486, m_fault2_487, d_fresh2_488, d_letters2_489, m_nameSize2_490, m_place2_491, m_token2_492, m_whole2_493, hq_501, ⟨rfl, rfl, rfl, rfl, rfl, rfl, rfl, rfl, rfl, rfl⟩⟩⟩)⟩⟩⟩⟩)⟩⟩⟩⟩)⟩⟩⟩⟩)⟩⟩⟩⟩)⟩, hk_502, rfl⟩
              · skip
                have hc_503 := hk_109.resolve_left h_111
                have iv_504 : IV m_token2_63 2 2 := iv_meet (iv_any m_token2_63) hc_503 (by decide) (by decide)
                have hc_505 := hk_75 (iv_eq iv_504 (show IV 2 2 2 from (by decide)))
                have iv_506 : IV m_nameSize2_61 0 8 := iv_meet iv_68 hc_505 (by decide) (by decide)
                have iv_507 : IV r_100 1 1 := iv_neL h_111 iv_104 (show IV 0 0 0 from (by decide)) (by decide)
                refine k_aload_n X dX11_readLine_107 0 rfl ?_
                refine k_callVV (n := 0) (As := []) (st := []) X [(cO11_i1r1i10r1i2r5i2r12i3r4i2 h0 m_thrown a_tape m_taped m_size m_at2_91 m_end2_92 m_token2_98 m_whole2_99 m_nameSize2_96 m_fault2_94 m_place2_97 m_trouble a_letters m_failed2_93 m_hasHouse a_r a_fresh a_st a_undone a_kept m_undos m_images a_from a_begin a_motor a_change a_startFrame a_changeFrame a_lostAt a_blackAt a_slips a_leftArc a_died a_arcs m_bestSum m_nearest m_nearestTown a_there a_backAt a_sorted a_parts m_seed1 m_darkNow), (cAI g a_tape 900 d_tape), (cAI g a_letters 8 d_letters2_95), (cAI g a_fresh 311 d_fresh)] [] [0, 1, 2, 3] [] (m_markLineX l g h0 m_thrown a_tape m_taped m_size m_at2_91 m_end2_92 m_token2_98 m_whole2_99 m_nameSize2_96 m_fault2_94 m_place2_97 m_trouble a_letters m_failed2_93 m_hasHouse a_r a_fresh a_st a_undone a_kept m_undos m_images a_from a_begin a_motor a_change a_startFrame a_changeFrame a_lostAt a_blackAt a_slips a_leftArc a_died a_arcs m_bestSum m_nearest m_nearestTown a_there a_backAt a_sorted a_parts m_seed1 m_darkNow d_tape d_letters2_95 d_fresh (iv_w hv_m_size (by decide) (by decide)) (iv_w iv_101 (by decide) (by decide)) (iv_w iv_103 (by decide) (by decide)) (iv_w iv_102 (by decide) (by decide)) hp_d_fresh hr_0 (by rcases hq_105 with q | q | q; exact absurd q h_111; exact Or.inl q; exact Or.inr (by rcases hb_83 with z | z; exact absurd z q; omega)) hk_110) dX11_readLine_108 mw567 mw568 mw569 mw5 mw570 rfl 11 rfl rfl 0 _ rfl yk_yX11_markLine_0 rfl (Nat.le_of_ble_eq_true rfl) (Nat.le_of_ble_eq_true rfl) (Nat.le_of_ble_eq_true rfl) (Nat.le_of_ble_eq_true rfl) (Nat.le_of_ble_eq_true rfl) rfl rfl (by decide) rfl (by decide) (by decide) ?_
                intro w zq
                refine exE10 zq ?_
                clear zq
                intro m_at2_508 m_end2_509 m_failed2_510 m_fault2_511 d_fresh2_512 d_letters2_513 m_nameSize2_514 m_place2_515 m_token2_516 m_whole2_517 iv_519 zq
                refine exA7 zq ?_
                clear zq
                intro iv_520 iv_521 hp_522 hq_523 hq_524 hq_525 hk_526 zq
                subst zq
                refine k_ws [(cO11_i1r1i10r1i2r5i2r12i3r4i2 h0 m_thrown a_tape m_taped m_size m_at2_508 m_end2_509 m_token2_516 m_whole2_517 m_nameSize2_514 m_fault2_511 m_place2_515 m_trouble a_letters m_failed2_510 m_hasHouse a_r a_fresh a_st a_undone a_kept m_undos m_images a_from a_begin a_motor a_change a_startFrame a_changeFrame a_lostAt a_blackAt a_slips a_leftArc a_died a_arcs m_bestSum m_nearest m_nearestTown a_there a_backAt a_sorted a_parts m_seed1 m_darkNow), (cAI g a_tape 900 d_tape), (cAI g a_letters 8 d_letters2_513), (cAI g a_fresh 311 d_fresh2_512)] rfl ?_
                refine k_goto 333 X dX11_readLine_111 (by decide) ?_
                exact k_vret X hr dX11_readLine_333 (Nat.le_of_ble_eq_true rfl) (Nat.le_of_ble_eq_true rfl) [0, 1, 2, 3] (by decide) rfl rfl ⟨m_at2_508, m_end2_509, m_failed2_510, m_fault2_511, d_fresh2_512, d_letters2_513, m_nameSize2_514, m_place2_515, m_token2_516, m_whole2_517, (iv_w iv_519 (by decide) (by decide)), (iv_w iv_520 (by decide) (by decide)), (iv_w iv_521 (by decide) (by decide)), hp_522, (by omega), (by omega), hq_524, ⟨r_2, hq_4, (Or.inl ⟨h_6, ⟨z_9, ez_9, ⟨b_12, hj_15, ⟨m_at2_21, m_end2_22, m_failed2_23, m_fault2_24, d_letters2_25, m_nameSize2_26, m_place2_27, m_token2_28, m_whole2_29, r_30, hq_38, (Or.inl ⟨h_41, ⟨z_44, ez_44, ⟨b_47, hj_50, ⟨m_at2_56, m_end2_57, m_failed2_58, m_fault2_59, d_letters2_60, m_nameSize2_61, m_place2_62, m_token2_63, m_whole2_64, r_65, hq_73, (Or.inl ⟨h_76, ⟨z_79, ez_79, ⟨b_82, hj_85, ⟨m_at2_91, m_end2_92, m_failed2_93, m_fault2_94, d_letters2_95, m_nameSize2_96, m_place2_97, m_token2_98, m_whole2_99, r_100, hq_108, (Or.inr ⟨h_111, ⟨m_at2_508, m_end2_509, m_failed2_510, m_fault2_511, d_fresh2_512, d_letters2_513, m_nameSize2_514, m_place2_515, m_token2_516, m_whole2_517, hq_525, ⟨rfl, rfl, rfl, rfl, rfl, rfl, rfl, rfl, rfl, rfl⟩⟩⟩)⟩⟩⟩⟩)⟩⟩⟩⟩)⟩⟩⟩⟩)⟩, hk_526, rfl⟩
          · skip
            have hc_527 := hk_74.resolve_left h_76
            have iv_528 : IV m_token2_28 2 2 := iv_meet (iv_any m_token2_28) hc_527 (by decide) (by decide)
            have hc_529 := hk_40 (iv_eq iv_528 (show IV 2 2 2 from (by decide)))
            have iv_530 : IV m_nameSize2_26 0 8 := iv_meet iv_33 hc_529 (by decide) (by decide)
            have iv_531 : IV r_65 1 1 := iv_neL h_76 iv_69 (show IV 0 0 0 from (by decide)) (by decide)
            refine k_aload_n X dX11_readLine_74 0 rfl ?_
            refine k_callVV (n := 0) (As := []) (st := []) X [(cO11_i1r1i10r1i2r5i2r12i3r4i2 h0 m_thrown a_tape m_taped m_size m_at2_56 m_end2_57 m_token2_63 m_whole2_64 m_nameSize2_61 m_fault2_59 m_place2_62 m_trouble a_letters m_failed2_58 m_hasHouse a_r a_fresh a_st a_undone a_kept m_undos m_images a_from a_begin a_motor a_change a_startFrame a_changeFrame a_lostAt a_blackAt a_slips a_leftArc a_died a_arcs m_bestSum m_nearest m_nearestTown a_there a_backAt a_sorted a_parts m_seed1 m_darkNow), (cAI g a_tape 900 d_tape), (cAI g a_letters 8 d_letters2_60), (cAI g a_fresh 311 d_fresh)] [] [0, 1, 2, 3] [] (m_townLineX l g h0 m_thrown a_tape m_taped m_size m_at2_56 m_end2_57 m_token2_63 m_whole2_64 m_nameSize2_61 m_fault2_59 m_place2_62 m_trouble a_letters m_failed2_58 m_hasHouse a_r a_fresh a_st a_undone a_kept m_undos m_images a_from a_begin a_motor a_change a_startFrame a_changeFrame a_lostAt a_blackAt a_slips a_leftArc a_died a_arcs m_bestSum m_nearest m_nearestTown a_there a_backAt a_sorted a_parts m_seed1 m_darkNow d_tape d_letters2_60 d_fresh (iv_w hv_m_size (by decide) (by decide)) (iv_w iv_66 (by decide) (by decide)) (iv_w iv_68 (by decide) (by decide)) (iv_w iv_67 (by decide) (by decide)) hp_d_fresh hr_0 (by rcases hq_70 with q | q | q; exact absurd q h_76; exact Or.inl q; exact Or.inr (by rcases hb_48 with z | z; exact absurd z q; omega)) hk_75) dX11_readLine_75 mw563 mw564 mw565 mw5 mw566 rfl 11 rfl rfl 0 _ rfl yk_yX11_townLine_0 rfl (Nat.le_of_ble_eq_true rfl) (Nat.le_of_ble_eq_true rfl) (Nat.le_of_ble_eq_true rfl) (Nat.le_of_ble_eq_true rfl) (Nat.le_of_ble_eq_true rfl) rfl rfl (by decide) rfl (by decide) (by decide) ?_
            intro w zq
            refine exE10 zq ?_
            clear zq
            intro m_at2_532 m_end2_533 m_failed2_534 m_fault2_535 d_fresh2_536 d_letters2_537 m_nameSize2_538 m_place2_539 m_token2_540 m_whole2_541 iv_543 zq
            refine exA7 zq ?_
            clear zq
            intro iv_544 iv_545 hp_546 hq_547 hq_548 hq_549 hk_550 zq
            subst zq
            refine k_ws [(cO11_i1r1i10r1i2r5i2r12i3r4i2 h0 m_thrown a_tape m_taped m_size m_at2_532 m_end2_533 m_token2_540 m_whole2_541 m_nameSize2_538 m_fault2_535 m_place2_539 m_trouble a_letters m_failed2_534 m_hasHouse a_r a_fresh a_st a_undone a_kept m_undos m_images a_from a_begin a_motor a_change a_startFrame a_changeFrame a_lostAt a_blackAt a_slips a_leftArc a_died a_arcs m_bestSum m_nearest m_nearestTown a_there a_backAt a_sorted a_parts m_seed1 m_darkNow), (cAI g a_tape 900 d_tape), (cAI g a_letters 8 d_letters2_537), (cAI g a_fresh 311 d_fresh2_536)] rfl ?_
            refine k_goto 333 X dX11_readLine_78 (by decide) ?_
            exact k_vret X hr dX11_readLine_333 (Nat.le_of_ble_eq_true rfl) (Nat.le_of_ble_eq_true rfl) [0, 1, 2, 3] (by decide) rfl rfl ⟨m_at2_532, m_end2_533, m_failed2_534, m_fault2_535, d_fresh2_536, d_letters2_537, m_nameSize2_538, m_place2_539, m_token2_540, m_whole2_541, (iv_w iv_543 (by decide) (by decide)), (iv_w iv_544 (by decide) (by decide)), (iv_w iv_545 (by decide) (by decide)), hp_546, (by omega), (by omega), hq_548, ⟨r_2, hq_4, (Or.inl ⟨h_6, ⟨z_9, ez_9, ⟨b_12, hj_15, ⟨m_at2_21, m_end2_22, m_failed2_23, m_fault2_24, d_letters2_25, m_nameSize2_26, m_place2_27, m_token2_28, m_whole2_29, r_30, hq_38, (Or.inl ⟨h_41, ⟨z_44, ez_44, ⟨b_47, hj_50, ⟨m_at2_56, m_end2_57, m_failed2_58, m_fault2_59, d_letters2_60, m_nameSize2_61, m_place2_62, m_token2_63, m_whole2_64, r_65, hq_73, (Or.inr ⟨h_76, ⟨m_at2_532, m_end2_533, m_failed2_534, m_fault2_535, d_fresh2_536, d_letters2_537, m_nameSize2_538, m_place2_539, m_token2_540, m_whole2_541, hq_549, ⟨rfl, rfl, rfl, rfl, rfl, rfl, rfl, rfl, rfl, rfl⟩⟩⟩)⟩⟩⟩⟩)⟩⟩⟩⟩)⟩, hk_550, rfl⟩
      · skip
        have hc_551 := hk_39.resolve_left h_41
        have iv_552 : IV m_token 2 2 := iv_meet (iv_any m_token) hc_551 (by decide) (by decide)
        have hc_553 := hc_0 (iv_eq iv_552 (show IV 2 2 2 from (by decide)))
        have iv_554 : IV m_nameSize 0 8 := iv_meet hv_m_nameSize hc_553 (by decide) (by decide)
        have iv_555 : IV r_30 1 1 := iv_neL h_41 iv_34 (show IV 0 0 0 from (by decide)) (by decide)
        refine k_aload_n X dX11_readLine_42 0 rfl ?_
        refine k_callVV (n := 0) (As := []) (st := []) X [(cO11_i1r1i10r1i2r5i2r12i3r4i2 h0 m_thrown a_tape m_taped m_size m_at2_21 m_end2_22 m_token2_28 m_whole2_29 m_nameSize2_26 m_fault2_24 m_place2_27 m_trouble a_letters m_failed2_23 m_hasHouse a_r a_fresh a_st a_undone a_kept m_undos m_images a_from a_begin a_motor a_change a_startFrame a_changeFrame a_lostAt a_blackAt a_slips a_leftArc a_died a_arcs m_bestSum m_nearest m_nearestTown a_there a_backAt a_sorted a_parts m_seed1 m_darkNow), (cAI g a_tape 900 d_tape), (cAI g a_letters 8 d_letters2_25), (cAI g a_fresh 311 d_fresh)] [] [0, 1, 2, 3] [] (m_reelLineX l g h0 m_thrown a_tape m_taped m_size m_at2_21 m_end2_22 m_token2_28 m_whole2_29 m_nameSize2_26 m_fault2_24 m_place2_27 m_trouble a_letters m_failed2_23 m_hasHouse a_r a_fresh a_st a_undone a_kept m_undos m_images a_from a_begin a_motor a_change a_startFrame a_changeFrame a_lostAt a_blackAt a_slips a_leftArc a_died a_arcs m_bestSum m_nearest m_nearestTown a_there a_backAt a_sorted a_parts m_seed1 m_darkNow d_tape d_letters2_25 d_fresh (iv_w hv_m_size (by decide) (by decide)) (iv_w iv_31 (by decide) (by decide)) (iv_w iv_33 (by decide) (by decide)) (iv_w iv_32 (by decide) (by decide)) hp_d_fresh hr_0 (by rcases hq_35 with q | q | q; exact absurd q h_41; exact Or.inl q; exact Or.inr (by rcases hb_13 with z | z; exact absurd z q; omega)) hk_40) dX11_readLine_43 mw547 mw548 mw549 mw5 mw550 rfl 11 rfl rfl 0 _ rfl yk_yX11_reelLine_0 rfl (Nat.le_of_ble_eq_true rfl) (Nat.le_of_ble_eq_true rfl) (Nat.le_of_ble_eq_true rfl) (Nat.le_of_ble_eq_true rfl) (Nat.le_of_ble_eq_true rfl) rfl rfl (by decide) rfl (by decide) (by decide) ?_
        intro w zq
        refine exE10 zq ?_
        clear zq
        intro m_at2_556 m_end2_557 m_failed2_558 m_fault2_559 d_fresh2_560 d_letters2_561 m_nameSize2_562 m_place2_563 m_token2_564 m_whole2_565 iv_567 zq
        refine exA7 zq ?_
        clear zq
        intro iv_568 iv_569 hp_570 hq_571 hq_572 hq_573 hk_574 zq
        subst zq
        refine k_ws [(cO11_i1r1i10r1i2r5i2r12i3r4i2 h0 m_thrown a_tape m_taped m_size m_at2_556 m_end2_557 m_token2_564 m_whole2_565 m_nameSize2_562 m_fault2_559 m_place2_563 m_trouble a_letters m_failed2_558 m_hasHouse a_r a_fresh a_st a_undone a_kept m_undos m_images a_from a_begin a_motor a_change a_startFrame a_changeFrame a_lostAt a_blackAt a_slips a_leftArc a_died a_arcs m_bestSum m_nearest m_nearestTown a_there a_backAt a_sorted a_parts m_seed1 m_darkNow), (cAI g a_tape 900 d_tape), (cAI g a_letters 8 d_letters2_561), (cAI g a_fresh 311 d_fresh2_560)] rfl ?_
        refine k_goto 333 X dX11_readLine_46 (by decide) ?_
        exact k_vret X hr dX11_readLine_333 (Nat.le_of_ble_eq_true rfl) (Nat.le_of_ble_eq_true rfl) [0, 1, 2, 3] (by decide) rfl rfl ⟨m_at2_556, m_end2_557, m_failed2_558, m_fault2_559, d_fresh2_560, d_letters2_561, m_nameSize2_562, m_place2_563, m_token2_564, m_whole2_565, (iv_w iv_567 (by decide) (by decide)), (iv_w iv_568 (by decide) (by decide)), (iv_w iv_569 (by decide) (by decide)), hp_570, (by omega), (by omega), hq_572, ⟨r_2, hq_4, (Or.inl ⟨h_6, ⟨z_9, ez_9, ⟨b_12, hj_15, ⟨m_at2_21, m_end2_22, m_failed2_23, m_fault2_24, d_letters2_25, m_nameSize2_26, m_place2_27, m_token2_28, m_whole2_29, r_30, hq_38, (Or.inr ⟨h_41, ⟨m_at2_556, m_end2_557, m_failed2_558, m_fault2_559, d_fresh2_560, d_letters2_561, m_nameSize2_562, m_place2_563, m_token2_564, m_whole2_565, hq_573, ⟨rfl, rfl, rfl, rfl, rfl, rfl, rfl, rfl, rfl, rfl⟩⟩⟩)⟩⟩⟩⟩)⟩, hk_574, rfl⟩
  · skip
    have hc_575 := hk_5.resolve_left h_6
    have iv_576 : IV m_token 2 2 := iv_meet (iv_any m_token) hc_575.1 (by decide) (by decide)
    have hc_577 := hc_0 (iv_eq iv_576 (show IV 2 2 2 from (by decide)))
    have iv_578 : IV m_nameSize 0 8 := iv_meet hv_m_nameSize hc_577 (by decide) (by decide)
    have iv_579 : IV m_failed 0 0 := iv_meet hv_m_failed hc_575.2 (by decide) (by decide)
    have iv_580 : IV r_2 1 1 := iv_neL h_6 iv_3 (show IV 0 0 0 from (by decide)) (by decide)
    refine k_aload_n X dX11_readLine_9 0 rfl ?_
    refine k_callVV (n := 0) (As := []) (st := []) X [(cO11_i1r1i10r1i2r5i2r12i3r4i2 h0 m_thrown a_tape m_taped m_size m_at m_end m_token m_whole m_nameSize m_fault m_place m_trouble a_letters m_failed m_hasHouse a_r a_fresh a_st a_undone a_kept m_undos m_images a_from a_begin a_motor a_change a_startFrame a_changeFrame a_lostAt a_blackAt a_slips a_leftArc a_died a_arcs m_bestSum m_nearest m_nearestTown a_there a_backAt a_sorted a_parts m_seed1 m_darkNow), (cAI g a_tape 900 d_tape), (cAI g a_letters 8 d_letters), (cAI g a_fresh 311 d_fresh)] [] [2, 0, 3, 1] [] (m_houseLineX l g h0 m_thrown a_tape m_taped m_size m_at m_end m_token m_whole m_nameSize m_fault m_place m_trouble a_letters m_failed m_hasHouse a_r a_fresh a_st a_undone a_kept m_undos m_images a_from a_begin a_motor a_change a_startFrame a_changeFrame a_lostAt a_blackAt a_slips a_leftArc a_died a_arcs m_bestSum m_nearest m_nearestTown a_there a_backAt a_sorted a_parts m_seed1 m_darkNow d_tape d_letters d_fresh (iv_w hv_m_size (by decide) (by decide)) (iv_w hv_m_end (by decide) (by decide)) (iv_w iv_578 (by decide) (by decide)) (iv_w iv_579 (by decide) (by decide)) hp_d_fresh hr_0 (fun _ => (iv_w iv_578 (by decide) (by decide)))) dX11_readLine_10 mw515 mw516 mw517 mw5 mw518 rfl 11 rfl rfl 0 _ rfl yk_yX11_houseLine_0 rfl (Nat.le_of_ble_eq_true rfl) (Nat.le_of_ble_eq_true rfl) (Nat.le_of_ble_eq_true rfl) (Nat.le_of_ble_eq_true rfl) (Nat.le_of_ble_eq_true rfl) rfl rfl (by decide) rfl (by decide) (by decide) ?_
    intro w zq
    refine exE10 zq ?_
    clear zq
    intro m_at2_581 m_end2_582 m_failed2_583 m_fault2_584 d_fresh2_585 d_letters2_586 m_nameSize2_587 m_place2_588 m_token2_589 m_whole2_590 iv_592 zq
    refine exA7 zq ?_
    clear zq
    intro iv_593 iv_594 hp_595 hq_596 hq_597 hq_598 hk_599 zq
    subst zq
    refine k_ws [(cO11_i1r1i10r1i2r5i2r12i3r4i2 h0 m_thrown a_tape m_taped m_size m_at2_581 m_end2_582 m_token2_589 m_whole2_590 m_nameSize2_587 m_fault2_584 m_place2_588 m_trouble a_letters m_failed2_583 m_hasHouse a_r a_fresh a_st a_undone a_kept m_undos m_images a_from a_begin a_motor a_change a_startFrame a_changeFrame a_lostAt a_blackAt a_slips a_leftArc a_died a_arcs m_bestSum m_nearest m_nearestTown a_there a_backAt a_sorted a_parts m_seed1 m_darkNow), (cAI g a_tape 900 d_tape), (cAI g a_letters 8 d_letters2_586), (cAI g a_fresh 311 d_fresh2_585)] rfl ?_
    refine k_goto 333 X dX11_readLine_13 (by decide) ?_
    exact k_vret X hr dX11_readLine_333 (Nat.le_of_ble_eq_true rfl) (Nat.le_of_ble_eq_true rfl) [0, 1, 2, 3] (by decide) rfl rfl ⟨m_at2_581, m_end2_582, m_failed2_583, m_fault2_584, d_fresh2_585, d_letters2_586, m_nameSize2_587, m_place2_588, m_token2_589, m_whole2_590, (iv_w iv_592 (by decide) (by decide)), (iv_w iv_593 (by decide) (by decide)), (iv_w iv_594 (by decide) (by decide)), hp_595, (by omega), (by omega), hq_597, ⟨r_2, hq_4, (Or.inr ⟨h_6, ⟨m_at2_581, m_end2_582, m_failed2_583, m_fault2_584, d_fresh2_585, d_letters2_586, m_nameSize2_587, m_place2_588, m_token2_589, m_whole2_590, hq_598, ⟨rfl, rfl, rfl, rfl, rfl, rfl, rfl, rfl, rfl, rfl⟩⟩⟩)⟩, hk_599, rfl⟩


set_option maxHeartbeats 4000000 in
set_option maxRecDepth 100000 in
theorem m_copyRX (l : Launch) (g : Gx) (fa : Nat) (ta : Nat) (f1 : Nat → Int32) (f2 : Nat → Int32) (hp_f1 : RInv f1) : cV l g yX11_copy cX11_copy 6 0 0 0 0 [.ref fa, .int 0, .ref ta, .int 0, .int 311] [(cAI g fa 311 f1), (cAI g ta 311 f2)] (fun w => ∃ (f3 : Nat → Int32), (RInv f3) ∧ (TRI f1 → TRI f3) ∧ (R_m_copyRX f1 f2 f3) ∧ w = [(cAI g fa 311 f1), (cAI g ta 311 f3)]) := by
  refine cV.of (by decide) (Nat.le_of_ble_eq_true rfl) ?_
  intro p e s m args below meth c A X hr hi
  refine k_lveq [(0, .ref fa), (1, .int 0), (2, .ref ta), (3, .int 0), (4, .int 311)] rfl ?_
  refine k_iconst (v := 0) X dX11_copy_0 (by decide) ?_
  refine k_istore [(5, .int 0), (0, .ref fa), (1, .int 0), (2, .ref ta), (3, .int 0), (4, .int 311)] X dX11_copy_1 (by decide) rfl ?_
  refine (fun hL : ∀ (nn_5 : Nat) (uf_1 : Nat → Int32) (u_2 : Int32), (311 - u_2.toInt).toNat = nn_5 → (IV u_2 0 900) → (∀ i : Nat, i < u_2.toInt.toNat → uf_1 i = f1 i) → (∀ (f3 : Nat → Int32), (∃ n_0 : Nat, R_m_copyRX_L0 f1 (fun (uf_1 : Nat → Int32) => f3 = uf_1) n_0 uf_1 u_2) → R_m_copyRX f1 f2 f3) → Wk p l e _ s m args below meth c _ A g _ _ _ [(cAI g fa 311 f1), (cAI g ta 311 uf_1)] [(5, .int u_2), (0, .ref fa), (1, .int 0), (2, .ref ta), (3, .int 0), (4, .int 311)] 3 [] => hL _ f2 0 rfl (iv_w (show IV 0 0 0 from (by decide)) (by decide) (by decide)) (cp_0) (fun f3 h => h)) ?_
  refine fun nn_5 => Nat.strongRecOn nn_5 (fun nn_5 ih_7 => ?_)
  intro uf_1 u_2 hm_6 hv_3 hx_4 KH_0
  refine k_iload X dX11_copy_3 0 rfl ?_
  refine k_iload X dX11_copy_5 5 rfl ?_
  refine k_ic_ge 28 X dX11_copy_7 (by decide) (fun h_8 => ?_) (fun h_8 => ?_)
  · skip
    have j_9 : 311 ≤ u_2.toInt := iv_le h_8
    have iv_10 : IV u_2 311 900 := iv_leR (iv_le h_8) (show IV 311 311 311 from (by decide)) hv_3 (by decide)
    exact k_vret X hr dX11_copy_28 (Nat.le_of_ble_eq_true rfl) (Nat.le_of_ble_eq_true rfl) [0, 1] (by decide) rfl rfl ⟨uf_1, (rinv_cp hp_f1 (by assumption) (by omega)), (fun hT => tri_cp hT hp_f1 (by assumption) (by omega)), (KH_0 _ ⟨0 + 1, (Or.inl ⟨h_8, rfl⟩)⟩), rfl⟩
  · skip
    have j_11 : u_2.toInt < 311 := iv_nle h_8
    have iv_12 : IV u_2 0 310 := iv_ltL (iv_nle h_8) hv_3 (show IV 311 311 311 from (by decide)) (by decide)
    refine k_aload_n X dX11_copy_10 3 rfl ?_
    refine k_iload_n X dX11_copy_11 4 rfl ?_
    refine k_iload X dX11_copy_12 0 rfl ?_
    refine k_iadd X dX11_copy_14 ?_
    refine k_nm (fun z_13 ez_13 => ?_)
    have i_14 : z_13.toInt = 0 + u_2.toInt := in_add ez_13 (show IV 0 0 0 from (by decide)) iv_12 (by decide) (by decide)
    have iv_15 : IV z_13 0 310 := iz2 i_14 iv_12 (by decide) (by decide)
    refine k_aload_n X dX11_copy_15 1 rfl ?_
    refine k_iload_n X dX11_copy_16 2 rfl ?_
    refine k_iload X dX11_copy_17 0 rfl ?_
    refine k_iadd X dX11_copy_19 ?_
    refine k_to z_13 ez_13.symm ?_
    refine k_iald X dX11_copy_20 0 rfl (iv_in iv_15 (by decide) (by decide)) ?_
    refine k_nm (fun z_16 ez_16 => ?_)
    refine k_iast [(cAI g fa 311 f1), (cAI g ta 311 (upd uf_1 (z_13 : Int32).toNatClampNeg z_16))] X dX11_copy_21 1 rfl (iv_in iv_15 (by decide) (by decide)) rfl ?_
    obtain ⟨z_18, ez_18⟩ : ∃ y : Int32, u_2 + Int32.ofInt 1 = y := ⟨_, rfl⟩
    refine k_iinc z_18 [(5, .int z_18), (0, .ref fa), (1, .int 0), (2, .ref ta), (3, .int 0), (4, .int 311)] 0 X dX11_copy_22 rfl ez_18 (by decide) rfl ?_
    have i_19 : z_18.toInt = u_2.toInt + 1 := in_inc ez_18 (by decide) iv_12 (by decide) (by decide)
    have iv_20 : IV z_18 1 311 := iz1 i_19 iv_12 (by decide) (by decide)
    refine k_goto 3 X dX11_copy_25 (by decide) ?_
    exact ih_7 _ (by omega) ((upd uf_1 (z_13 : Int32).toNatClampNeg z_16)) z_18 rfl (iv_w iv_20 (by decide) (by decide)) (cp_step (by assumption) (by assumption) (by assumption) (by assumption) (by have := (by assumption : IV _ _ _); omega)) (fun f3 h => h.elim (fun n_0 q => (KH_0 _ ⟨n_0 + 1, (Or.inr ⟨h_8, ⟨z_13, ez_13, ⟨z_16, ez_16, ⟨z_18, ez_18, q⟩⟩⟩⟩)⟩)))


set_option maxHeartbeats 4000000 in
set_option maxRecDepth 100000 in
theorem m_houseX (l : Launch) (g : Gx) (h0 : Nat) (p0 : Int32) (m_thrown : Int32) (a_tape : Nat) (m_taped : Int32) (m_size : Int32) (m_at : Int32) (m_end : Int32) (m_token : Int32) (m_whole : Int32) (m_nameSize : Int32) (m_fault : Int32) (m_place : Int32) (m_trouble : Int32) (a_letters : Nat) (m_failed : Int32) (m_hasHouse : Int32) (a_r : Nat) (a_fresh : Nat) (a_st : Nat) (a_undone : Nat) (a_kept : Nat) (m_undos : Int32) (m_images : Int32) (a_from : Nat) (a_begin : Nat) (a_motor : Nat) (a_change : Nat) (a_startFrame : Nat) (a_changeFrame : Nat) (a_lostAt : Nat) (a_blackAt : Nat) (a_slips : Nat) (a_leftArc : Nat) (a_died : Nat) (a_arcs : Nat) (m_bestSum : Int32) (m_nearest : Int32) (m_nearestTown : Int32) (a_there : Nat) (a_backAt : Nat) (a_sorted : Nat) (a_parts : Nat) (m_seed1 : Int32) (m_darkNow : Int32) (d_tape : Nat → Int32) (d_letters : Nat → Int32) (d_r : Nat → Int32) (d_fresh : Nat → Int32) (d_st : Nat → Int32) (hv_m_size : IV m_size 0 900) (hv_m_end : IV m_end 0 900) (hv_m_nameSize : IV m_nameSize 0 900) (hv_m_failed : IV m_failed 0 1) (hv_m_hasHouse : IV m_hasHouse 0 1) (hv_m_undos : IV m_undos 0 12) (hv_m_images : IV m_images 0 3) (hv_m_taped : IV m_taped 0 900) (hp_d_r : RInv d_r) (hp_d_fresh : RInv d_fresh) (hr_0 : TRI d_r) : cI l g yX11_house cX11_house 3 (some .int) 10 218 0 0 [.ref h0, .int p0] [(cO11_i1r1i10r1i2r5i2r12i3r4i2 h0 m_thrown a_tape m_taped m_size m_at m_end m_token m_whole m_nameSize m_fault m_place m_trouble a_letters m_failed m_hasHouse a_r a_fresh a_st a_undone a_kept m_undos m_images a_from a_begin a_motor a_change a_startFrame a_changeFrame a_lostAt a_blackAt a_slips a_leftArc a_died a_arcs m_bestSum m_nearest m_nearestTown a_there a_backAt a_sorted a_parts m_seed1 m_darkNow), (cAI g a_tape 900 d_tape), (cAI g a_letters 8 d_letters), (cAI g a_r 311 d_r), (cAI g a_fresh 311 d_fresh), (cAI g a_st 44 d_st)] (fun r w => ∃ (m_at2 : Int32) (m_end2 : Int32) (m_failed2 : Int32) (m_fault2 : Int32) (d_fresh2 : Nat → Int32) (m_hasHouse2 : Int32) (m_images2 : Int32) (d_letters2 : Nat → Int32) (m_nameSize2 : Int32) (m_place2 : Int32) (d_r2 : Nat → Int32) (m_size2 : Int32) (d_st2 : Nat → Int32) (m_taped2 : Int32) (m_thrown2 : Int32) (m_token2 : Int32) (m_trouble2 : Int32) (m_undos2 : Int32) (m_whole2 : Int32), IV m_end2 0 900 ∧ IV m_failed2 0 1 ∧ IV m_hasHouse2 0 1 ∧ IV m_images2 0 3 ∧ IV m_nameSize2 0 900 ∧ IV m_size2 0 900 ∧ IV m_taped2 0 900 ∧ IV m_undos2 0 12 ∧ RInv d_r2 ∧ RInv d_fresh2 ∧ ((p0.toInt < 0 ∨ m_taped.toInt < p0.toInt → m_taped2 = m_taped) ∧ (0 ≤ p0.toInt ∧ p0.toInt ≤ m_taped.toInt → m_taped2 = 0)) ∧ (TRI d_r2) ∧ (R_m_houseX p0 m_taped m_size m_at m_end m_token m_whole m_nameSize m_fault m_place m_failed m_hasHouse m_undos m_images d_tape d_letters d_r d_fresh d_st m_at2 m_end2 m_failed2 m_fault2 d_fresh2 m_hasHouse2 m_images2 d_letters2 m_nameSize2 m_place2 d_r2 m_size2 d_st2 m_taped2 m_thrown2 m_token2 m_trouble2 m_undos2 m_whole2 r) ∧ w = [(cO11_i1r1i10r1i2r5i2r12i3r4i2 h0 m_thrown2 a_tape m_taped2 m_size2 m_at2 m_end2 m_token2 m_whole2 m_nameSize2 m_fault2 m_place2 m_trouble2 a_letters m_failed2 m_hasHouse2 a_r a_fresh a_st a_undone a_kept m_undos2 m_images2 a_from a_begin a_motor a_change a_startFrame a_changeFrame a_lostAt a_blackAt a_slips a_leftArc a_died a_arcs m_bestSum m_nearest m_nearestTown a_there a_backAt a_sorted a_parts m_seed1 m_darkNow), (cAI g a_tape 900 d_tape), (cAI g a_letters 8 d_letters2), (cAI g a_r 311 d_r2), (cAI g a_fresh 311 d_fresh2), (cAI g a_st 44 d_st2)]) := by
  refine cI.of (by decide) (Nat.le_of_ble_eq_true rfl) ?_
  intro p e s m args below meth c A X hr hi
  refine k_lveq [(0, .ref h0), (1, .int p0)] rfl ?_
  refine k_aload_n X dX11_house_0 0 rfl ?_
  refine k_callVV (n := 0) (As := []) (st := []) X [(cO11_i1r1i10r1i2r5i2r12i3r4i2 h0 m_thrown a_tape m_taped m_size m_at m_end m_token m_whole m_nameSize m_fault m_place m_trouble a_letters m_failed m_hasHouse a_r a_fresh a_st a_undone a_kept m_undos m_images a_from a_begin a_motor a_change a_startFrame a_changeFrame a_lostAt a_blackAt a_slips a_leftArc a_died a_arcs m_bestSum m_nearest m_nearestTown a_there a_backAt a_sorted a_parts m_seed1 m_darkNow)] [(cAI g a_tape 900 d_tape), (cAI g a_letters 8 d_letters), (cAI g a_r 311 d_r), (cAI g a_fresh 311 d_fresh), (cAI g a_st 44 d_st)] [0] [1, 2, 3, 4, 5] (m_goodX l g h0 m_thrown a_tape m_taped m_size m_at m_end m_token m_whole m_nameSize m_fault m_place m_trouble a_letters m_failed m_hasHouse a_r a_fresh a_st a_undone a_kept m_undos m_images a_from a_begin a_motor a_change a_startFrame a_changeFrame a_lostAt a_blackAt a_slips a_leftArc a_died a_arcs m_bestSum m_nearest m_nearestTown a_there a_backAt a_sorted a_parts m_seed1 m_darkNow) dX11_house_1 mw477 mw478 mw479 mw5 mw480 rfl 11 rfl rfl 0 _ rfl yk_yX11_good_0 rfl (Nat.le_of_ble_eq_true rfl) (Nat.le_of_ble_eq_true rfl) (Nat.le_of_ble_eq_true rfl) (Nat.le_of_ble_eq_true rfl) (Nat.le_of_ble_eq_true rfl) rfl rfl (by decide) rfl (by decide) (by decide) ?_
  rintro w ⟨m_thrown2_1, m_trouble2_2, hq_4, rfl⟩
  refine k_ws [(cAI g a_tape 900 d_tape), (cAI g a_letters 8 d_letters), (cAI g a_r 311 d_r), (cAI g a_fresh 311 d_fresh), (cAI g a_st 44 d_st), (cO11_i1r1i10r1i2r5i2r12i3r4i2 h0 m_thrown2_1 a_tape m_taped m_size m_at m_end m_token m_whole m_nameSize m_fault m_place m_trouble2_2 a_letters m_failed m_hasHouse a_r a_fresh a_st a_undone a_kept m_undos m_images a_from a_begin a_motor a_change a_startFrame a_changeFrame a_lostAt a_blackAt a_slips a_leftArc a_died a_arcs m_bestSum m_nearest m_nearestTown a_there a_backAt a_sorted a_parts m_seed1 m_darkNow)] rfl ?_
  refine k_iload_n X dX11_house_4 1 rfl ?_
  refine k_iconst (v := 0) X dX11_house_5 (by decide) ?_
  refine k_aload_n X dX11_house_6 0 rfl ?_
  refine k_get (ci := 11) X inlX11 rfl 2 (by decide) dX11_house_7 mw205 5 rfl rfl ?_
  refine k_callSI (n := 3) (As := [.int p0, .int 0, .int m_taped]) (st := []) X [] [(cAI g a_tape 900 d_tape), (cAI g a_letters 8 d_letters), (cAI g a_r 311 d_r), (cAI g a_fresh 311 d_fresh), (cAI g a_st 44 d_st), (cO11_i1r1i10r1i2r5i2r12i3r4i2 h0 m_thrown2_1 a_tape m_taped m_size m_at m_end m_token m_whole m_nameSize m_fault m_place m_trouble2_2 a_letters m_failed m_hasHouse a_r a_fresh a_st a_undone a_kept m_undos m_images a_from a_begin a_motor a_change a_startFrame a_changeFrame a_lostAt a_blackAt a_slips a_leftArc a_died a_arcs m_bestSum m_nearest m_nearestTown a_there a_backAt a_sorted a_parts m_seed1 m_darkNow)] [] [0, 1, 2, 3, 4, 5] (m_inX l g p0 0 m_taped) dX11_house_10 mw482 mw483 mw5 mw484 yk_yX11_in_3 rfl (Nat.le_of_ble_eq_true rfl) (Nat.le_of_ble_eq_true rfl) (Nat.le_of_ble_eq_true rfl) (Nat.le_of_ble_eq_true rfl) (Nat.le_of_ble_eq_true rfl) rfl rfl (by decide) rfl (by decide) (by decide) ?_
  rintro r_5 w ⟨iv_6, hq_7, hk_8, hk_9, rfl⟩
  refine k_ws [(cAI g a_tape 900 d_tape), (cAI g a_letters 8 d_letters), (cAI g a_r 311 d_r), (cAI g a_fresh 311 d_fresh), (cAI g a_st 44 d_st), (cO11_i1r1i10r1i2r5i2r12i3r4i2 h0 m_thrown2_1 a_tape m_taped m_size m_at m_end m_token m_whole m_nameSize m_fault m_place m_trouble2_2 a_letters m_failed m_hasHouse a_r a_fresh a_st a_undone a_kept m_undos m_images a_from a_begin a_motor a_change a_startFrame a_changeFrame a_lostAt a_blackAt a_slips a_leftArc a_died a_arcs m_bestSum m_nearest m_nearestTown a_there a_backAt a_sorted a_parts m_seed1 m_darkNow)] rfl ?_
  refine k_if_ne 22 X dX11_house_13 (by decide) (fun h_10 => ?_) (fun h_10 => ?_)
  · skip
    have hc_11 := hk_8.resolve_left h_10
    have j_12 : 0 ≤ p0.toInt := hc_11.1
    have iv_13 : IV p0 0 2147483647 := iv_leR hc_11.1 (show IV 0 0 0 from (by decide)) (iv_any p0) (by decide)
    have j_14 : p0.toInt ≤ m_taped.toInt := hc_11.2
    have iv_15 : IV p0 0 900 := iv_leL hc_11.2 iv_13 hv_m_taped (by decide)
    have iv_16 : IV r_5 1 1 := iv_neL h_10 iv_6 (show IV 0 0 0 from (by decide)) (by decide)
    refine k_aload_n X dX11_house_22 0 rfl ?_
    refine k_iconst (v := 0) X dX11_house_23 (by decide) ?_
    refine k_put (ci := 11) [(cAI g a_tape 900 d_tape), (cAI g a_letters 8 d_letters), (cAI g a_r 311 d_r), (cAI g a_fresh 311 d_fresh), (cAI g a_st 44 d_st), (cO11_i1r1i10r1i2r5i2r12i3r4i2 h0 m_thrown2_1 a_tape 0 m_size m_at m_end m_token m_whole m_nameSize m_fault m_place m_trouble2_2 a_letters m_failed m_hasHouse a_r a_fresh a_st a_undone a_kept m_undos m_images a_from a_begin a_motor a_change a_startFrame a_changeFrame a_lostAt a_blackAt a_slips a_leftArc a_died a_arcs m_bestSum m_nearest m_nearestTown a_there a_backAt a_sorted a_parts m_seed1 m_darkNow)] X inlX11 rfl tyX11_ok nmX11 2 (by decide) rfl dX11_house_24 mw205 5 rfl rfl rfl (Nat.le_of_ble_eq_true rfl) rfl ?_
    refine k_aload_n X dX11_house_27 0 rfl ?_
    refine k_iconst (v := 0) X dX11_house_28 (by decide) ?_
    refine k_put (ci := 11) [(cAI g a_tape 900 d_tape), (cAI g a_letters 8 d_letters), (cAI g a_r 311 d_r), (cAI g a_fresh 311 d_fresh), (cAI g a_st 44 d_st), (cO11_i1r1i10r1i2r5i2r12i3r4i2 h0 m_thrown2_1 a_tape 0 m_size m_at m_end m_token m_whole m_nameSize 0 m_place m_trouble2_2 a_letters m_failed m_hasHouse a_r a_fresh a_st a_undone a_kept m_undos m_images a_from a_begin a_motor a_change a_startFrame a_changeFrame a_lostAt a_blackAt a_slips a_leftArc a_died a_arcs m_bestSum m_nearest m_nearestTown a_there a_backAt a_sorted a_parts m_seed1 m_darkNow)] X inlX11 rfl tyX11_ok nmX11 9 (by decide) rfl dX11_house_29 mw468 5 rfl rfl rfl (Nat.le_of_ble_eq_true rfl) rfl ?_
    refine k_aload_n X dX11_house_32 0 rfl ?_
    refine k_iconst (v := 0) X dX11_house_33 (by decide) ?_
    refine k_put (ci := 11) [(cAI g a_tape 900 d_tape), (cAI g a_letters 8 d_letters), (cAI g a_r 311 d_r), (cAI g a_fresh 311 d_fresh), (cAI g a_st 44 d_st), (cO11_i1r1i10r1i2r5i2r12i3r4i2 h0 m_thrown2_1 a_tape 0 m_size m_at m_end m_token m_whole m_nameSize 0 m_place m_trouble2_2 a_letters 0 m_hasHouse a_r a_fresh a_st a_undone a_kept m_undos m_images a_from a_begin a_motor a_change a_startFrame a_changeFrame a_lostAt a_blackAt a_slips a_leftArc a_died a_arcs m_bestSum m_nearest m_nearestTown a_there a_backAt a_sorted a_parts m_seed1 m_darkNow)] X inlX11 rfl tyX11_ok nmX11 13 (by decide) rfl dX11_house_34 mw469 5 rfl (by decide) (by decide) (Nat.le_of_ble_eq_true rfl) rfl ?_
    refine k_iconst (v := 0) X dX11_house_37 (by decide) ?_
    refine k_istore_n [(2, .int 0), (0, .ref h0), (1, .int p0)] X dX11_house_38 (by decide) rfl ?_
    refine (fun hL : ∀ (nn_22 : Nat) (uf_17 : Nat → Int32) (u_19 : Int32), (311 - u_19.toInt).toNat = nn_22 → (RInv uf_17) → (IV u_19 0 900) → (∀ i : Nat, i < u_19.toInt.toNat → uf_17 i = 0) → (∀ (m_at2 : Int32) (m_end2 : Int32) (m_failed2 : Int32) (m_fault2 : Int32) (d_fresh2 : Nat → Int32) (m_hasHouse2 : Int32) (m_images2 : Int32) (d_letters2 : Nat → Int32) (m_nameSize2 : Int32) (m_place2 : Int32) (d_r2 : Nat → Int32) (m_size2 : Int32) (d_st2 : Nat → Int32) (m_taped2 : Int32) (m_thrown2 : Int32) (m_token2 : Int32) (m_trouble2 : Int32) (m_undos2 : Int32) (m_whole2 : Int32) (r : Int32), (∃ n_0 : Nat, R_m_houseX_L0 (fun (uf_17 : Nat → Int32) => ∃ m_at2_29 : Int32, ∃ m_end2_30 : Int32, ∃ d_letters2_31 : Nat → Int32, ∃ m_nameSize2_32 : Int32, ∃ m_token2_33 : Int32, ∃ m_whole2_34 : Int32, (R_m_nextX p0 0 d_tape d_letters m_at2_29 m_end2_30 d_letters2_31 m_nameSize2_32 m_token2_33 m_whole2_34) ∧ ∃ m_at2_42 : Int32, ∃ m_end2_43 : Int32, ∃ m_failed2_44 : Int32, ∃ m_fault2_45 : Int32, ∃ d_fresh2_46 : Nat → Int32, ∃ d_letters2_47 : Nat → Int32, ∃ m_nameSize2_48 : Int32, ∃ m_place2_49 : Int32, ∃ m_token2_50 : Int32, ∃ m_whole2_51 : Int32, (R_m_readLineX p0 m_at2_29 m_end2_30 m_token2_33 m_whole2_34 m_nameSize2_32 0 m_place 0 d_tape d_letters2_31 uf_17 m_at2_42 m_end2_43 m_failed2_44 m_fault2_45 d_fresh2_46 d_letters2_47 m_nameSize2_48 m_place2_49 m_token2_50 m_whole2_51) ∧ ∃ n_1 : Nat, R_m_houseX_L1 p0 d_tape (fun (u_69 : Int32) (u_70 : Int32) (u_67 : Int32) (u_76 : Int32) (uf_62 : Nat → Int32) (uf_65 : Nat → Int32) (u_74 : Int32) (u_66 : Int32) (u_72 : Int32) (u_73 : Int32) => ∃ m_trouble2_86 : Int32, ∃ r_87 : Int32, (R_m_noX 4 m_trouble2_86 r_87) ∧ m_at2 = u_69 ∧ m_end2 = u_70 ∧ m_failed2 = u_67 ∧ m_fault2 = u_76 ∧ d_fresh2 = uf_62 ∧ m_hasHouse2 = m_hasHouse ∧ m_images2 = m_images ∧ d_letters2 = uf_65 ∧ m_nameSize2 = u_74 ∧ m_place2 = u_66 ∧ d_r2 = d_r ∧ m_size2 = p0 ∧ d_st2 = d_st ∧ m_taped2 = 0 ∧ m_thrown2 = m_thrown2_1 ∧ m_token2 = u_72 ∧ m_trouble2 = m_trouble2_86 ∧ m_undos2 = m_undos ∧ m_whole2 = u_73 ∧ r = r_87) (fun (u_72 : Int32) (uf_62 : Nat → Int32) (u_69 : Int32) (u_76 : Int32) (u_66 : Int32) (u_67 : Int32) (u_70 : Int32) (uf_65 : Nat → Int32) (u_74 : Int32) (u_73 : Int32) => (((u_72 = (0 : Int32)) ∧ (∃ z_96 : Int32, z_96 = uf_62 ((15 : Int32)).toNatClampNeg ∧ (((z_96 = (0 : Int32)) ∧ (∃ m_failed2_99 : Int32, ∃ m_fault2_100 : Int32, ∃ m_place2_101 : Int32, (R_m_badX 6 u_69 u_76 u_66 u_67 m_failed2_99 m_fault2_100 m_place2_101) ∧ ∃ m_trouble2_106 : Int32, ∃ r_107 : Int32, (R_m_noX 4 m_trouble2_106 r_107) ∧ m_at2 = u_69 ∧ m_end2 = u_70 ∧ m_failed2 = m_failed2_99 ∧ m_fault2 = m_fault2_100 ∧ d_fresh2 = uf_62 ∧ m_hasHouse2 = m_hasHouse ∧ m_images2 = m_images ∧ d_letters2 = uf_65 ∧ m_nameSize2 = u_74 ∧ m_place2 = m_place2_101 ∧ d_r2 = d_r ∧ m_size2 = p0 ∧ d_st2 = d_st ∧ m_taped2 = 0 ∧ m_thrown2 = m_thrown2_1 ∧ m_token2 = u_72 ∧ m_trouble2 = m_trouble2_106 ∧ m_undos2 = m_undos ∧ m_whole2 = u_73 ∧ r = r_107)) ∨ ((¬ (z_96 = (0 : Int32))) ∧ (∃ z_110 : Int32, z_110 = uf_62 ((12 : Int32)).toNatClampNeg ∧ (((z_110 = (0 : Int32)) ∧ (∃ m_failed2_115 : Int32, ∃ m_fault2_116 : Int32, ∃ m_place2_117 : Int32, (R_m_badX 6 u_69 u_76 u_66 u_67 m_failed2_115 m_fault2_116 m_place2_117) ∧ ∃ m_trouble2_122 : Int32, ∃ r_123 : Int32, (R_m_noX 4 m_trouble2_122 r_123) ∧ m_at2 = u_69 ∧ m_end2 = u_70 ∧ m_failed2 = m_failed2_115 ∧ m_fault2 = m_fault2_116 ∧ d_fresh2 = uf_62 ∧ m_hasHouse2 = m_hasHouse ∧ m_images2 = m_images ∧ d_letters2 = uf_65 ∧ m_nameSize2 = u_74 ∧ m_place2 = m_place2_117 ∧ d_r2 = d_r ∧ m_size2 = p0 ∧ d_st2 = d_st ∧ m_taped2 = 0 ∧ m_thrown2 = m_thrown2_1 ∧ m_token2 = u_72 ∧ m_trouble2 = m_trouble2_122 ∧ m_undos2 = m_undos ∧ m_whole2 = u_73 ∧ r = r_123)) ∨ ((¬ (z_110 = (0 : Int32))) ∧ (∃ z_127 : Int32, z_127 = uf_62 ((11 : Int32)).toNatClampNeg ∧ (((z_127 ≠ (0 : Int32)) ∧ (∃ f3_133 : Nat → Int32, (R_m_copyRX uf_62 d_r f3_133) ∧ ∃ n_2 : Nat, R_m_houseX_L2 (fun (uf_139 : Nat → Int32) => ∃ n_3 : Nat, R_m_houseX_L3 f3_133 (fun (uf_148 : Nat → Int32) => ∃ n_4 : Nat, R_m_houseX_L4 f3_133 (fun (uf_159 : Nat → Int32) => ∃ n_5 : Nat, R_m_houseX_L5 f3_133 (fun (uf_170 : Nat → Int32) => ∃ n_6 : Nat, R_m_houseX_L6 f3_133 (fun (uf_181 : Nat → Int32) (z_187 : Int32) => m_at2 = u_69 ∧ m_end2 = u_70 ∧ m_failed2 = u_67 ∧ m_fault2 = u_76 ∧ d_fresh2 = uf_62 ∧ m_hasHouse2 = 1 ∧ m_images2 = 0 ∧ d_letters2 = uf_65 ∧ m_nameSize2 = u_74 ∧ m_place2 = u_66 ∧ d_r2 = f3_133 ∧ m_size2 = p0 ∧ d_st2 = uf_181 ∧ m_taped2 = 0 ∧ m_thrown2 = m_thrown2_1 ∧ m_token2 = u_72 ∧ m_trouble2 = m_trouble2_2 ∧ m_undos2 = 0 ∧ m_whole2 = u_73 ∧ r = z_187) n_6 uf_170 0) n_5 uf_159 0) n_4 uf_148 0) n_3 uf_139 0) n_2 d_st 0)) ∨ ((z_127 = (0 : Int32)) ∧ (∃ m_failed2_275 : Int32, ∃ m_fault2_276 : Int32, ∃ m_place2_277 : Int32, (R_m_badX 6 u_69 u_76 u_66 u_67 m_failed2_275 m_fault2_276 m_place2_277) ∧ ∃ m_trouble2_282 : Int32, ∃ r_283 : Int32, (R_m_noX 4 m_trouble2_282 r_283) ∧ m_at2 = u_69 ∧ m_end2 = u_70 ∧ m_failed2 = m_failed2_275 ∧ m_fault2 = m_fault2_276 ∧ d_fresh2 = uf_62 ∧ m_hasHouse2 = m_hasHouse ∧ m_images2 = m_images ∧ d_letters2 = uf_65 ∧ m_nameSize2 = u_74 ∧ m_place2 = m_place2_277 ∧ d_r2 = d_r ∧ m_size2 = p0 ∧ d_st2 = d_st ∧ m_taped2 = 0 ∧ m_thrown2 = m_thrown2_1 ∧ m_token2 = u_72 ∧ m_trouble2 = m_trouble2_282 ∧ m_undos2 = m_undos ∧ m_whole2 = u_73 ∧ r = r_283))))))))))) ∨ ((¬ (u_72 = (0 : Int32))) ∧ (∃ m_failed2_286 : Int32, ∃ m_fault2_287 : Int32, ∃ m_place2_288 : Int32, (R_m_badX 1 u_69 u_76 u_66 u_67 m_failed2_286 m_fault2_287 m_place2_288) ∧ ∃ m_trouble2_294 : Int32, ∃ r_295 : Int32, (R_m_noX 4 m_trouble2_294 r_295) ∧ m_at2 = u_69 ∧ m_end2 = u_70 ∧ m_failed2 = m_failed2_286 ∧ m_fault2 = m_fault2_287 ∧ d_fresh2 = uf_62 ∧ m_hasHouse2 = m_hasHouse ∧ m_images2 = m_images ∧ d_letters2 = uf_65 ∧ m_nameSize2 = u_74 ∧ m_place2 = m_place2_288 ∧ d_r2 = d_r ∧ m_size2 = p0 ∧ d_st2 = d_st ∧ m_taped2 = 0 ∧ m_thrown2 = m_thrown2_1 ∧ m_token2 = u_72 ∧ m_trouble2 = m_trouble2_294 ∧ m_undos2 = m_undos ∧ m_whole2 = u_73 ∧ r = r_295)))) n_1 d_fresh2_46 d_letters2_47 m_place2_49 m_failed2_44 m_at2_42 m_end2_43 m_token2_50 m_whole2_51 m_nameSize2_48 m_fault2_45) n_0 uf_17 u_19) → R_m_houseX p0 m_taped m_size m_at m_end m_token m_whole m_nameSize m_fault m_place m_failed m_hasHouse m_undos m_images d_tape d_letters d_r d_fresh d_st m_at2 m_end2 m_failed2 m_fault2 d_fresh2 m_hasHouse2 m_images2 d_letters2 m_nameSize2 m_place2 d_r2 m_size2 d_st2 m_taped2 m_thrown2 m_token2 m_trouble2 m_undos2 m_whole2 r) → Wk p l e _ s m args below meth c _ A g _ _ _ [(cAI g a_tape 900 d_tape), (cAI g a_letters 8 d_letters), (cAI g a_r 311 d_r), (cAI g a_fresh 311 uf_17), (cAI g a_st 44 d_st), (cO11_i1r1i10r1i2r5i2r12i3r4i2 h0 m_thrown2_1 a_tape 0 m_size m_at m_end m_token m_whole m_nameSize 0 m_place m_trouble2_2 a_letters 0 m_hasHouse a_r a_fresh a_st a_undone a_kept m_undos m_images a_from a_begin a_motor a_change a_startFrame a_changeFrame a_lostAt a_blackAt a_slips a_leftArc a_died a_arcs m_bestSum m_nearest m_nearestTown a_there a_backAt a_sorted a_parts m_seed1 m_darkNow)] [(2, .int u_19), (0, .ref h0), (1, .int p0)] 39 [] => hL _ d_fresh 0 rfl hp_d_fresh (iv_w (show IV 0 0 0 from (by decide)) (by decide) (by decide)) (z_0) (fun m_at2 m_end2 m_failed2 m_fault2 d_fresh2 m_hasHouse2 m_images2 d_letters2 m_nameSize2 m_place2 d_r2 m_size2 d_st2 m_taped2 m_thrown2 m_token2 m_trouble2 m_undos2 m_whole2 r h => ⟨m_thrown2_1, m_trouble2_2, hq_4, ⟨r_5, hq_7, (Or.inl ⟨h_10, h⟩)⟩⟩)) ?_
    refine fun nn_22 => Nat.strongRecOn nn_22 (fun nn_22 ih_24 => ?_)
    intro uf_17 u_19 hm_23 hp_18 hv_20 hx_21 KH_0
    refine k_iload_n X dX11_house_39 0 rfl ?_
    refine k_sipush (v := 311) X dX11_house_40 (by decide) ?_
    refine k_ic_ge 59 X dX11_house_43 (by decide) (fun h_25 => ?_) (fun h_25 => ?_)
    · skip
      have j_26 : 311 ≤ u_19.toInt := iv_le h_25
      have iv_27 : IV u_19 311 900 := iv_leR (iv_le h_25) (show IV 311 311 311 from (by decide)) hv_20 (by decide)
      have hT_28 : TRI uf_17 := tri_zero hx_21 (by omega)
      refine k_aload_n X dX11_house_59 1 rfl ?_
      refine k_iload_n X dX11_house_60 2 rfl ?_
      refine k_put (ci := 11) [(cAI g a_tape 900 d_tape), (cAI g a_letters 8 d_letters), (cAI g a_r 311 d_r), (cAI g a_fresh 311 uf_17), (cAI g a_st 44 d_st), (cO11_i1r1i10r1i2r5i2r12i3r4i2 h0 m_thrown2_1 a_tape 0 p0 m_at m_end m_token m_whole m_nameSize 0 m_place m_trouble2_2 a_letters 0 m_hasHouse a_r a_fresh a_st a_undone a_kept m_undos m_images a_from a_begin a_motor a_change a_startFrame a_changeFrame a_lostAt a_blackAt a_slips a_leftArc a_died a_arcs m_bestSum m_nearest m_nearestTown a_there a_backAt a_sorted a_parts m_seed1 m_darkNow)] X inlX11 rfl tyX11_ok nmX11 3 (by decide) rfl dX11_house_61 mw470 5 rfl rfl rfl (Nat.le_of_ble_eq_true rfl) rfl ?_
      refine k_aload_n X dX11_house_64 1 rfl ?_
      refine k_iconst (v := 0) X dX11_house_65 (by decide) ?_
      refine k_put (ci := 11) [(cAI g a_tape 900 d_tape), (cAI g a_letters 8 d_letters), (cAI g a_r 311 d_r), (cAI g a_fresh 311 uf_17), (cAI g a_st 44 d_st), (cO11_i1r1i10r1i2r5i2r12i3r4i2 h0 m_thrown2_1 a_tape 0 p0 m_at 0 m_token m_whole m_nameSize 0 m_place m_trouble2_2 a_letters 0 m_hasHouse a_r a_fresh a_st a_undone a_kept m_undos m_images a_from a_begin a_motor a_change a_startFrame a_changeFrame a_lostAt a_blackAt a_slips a_leftArc a_died a_arcs m_bestSum m_nearest m_nearestTown a_there a_backAt a_sorted a_parts m_seed1 m_darkNow)] X inlX11 rfl tyX11_ok nmX11 5 (by decide) rfl dX11_house_66 mw471 5 rfl rfl rfl (Nat.le_of_ble_eq_true rfl) rfl ?_
      refine k_aload_n X dX11_house_69 1 rfl ?_
      refine k_callVV (n := 0) (As := []) (st := []) X [(cO11_i1r1i10r1i2r5i2r12i3r4i2 h0 m_thrown2_1 a_tape 0 p0 m_at 0 m_token m_whole m_nameSize 0 m_place m_trouble2_2 a_letters 0 m_hasHouse a_r a_fresh a_st a_undone a_kept m_undos m_images a_from a_begin a_motor a_change a_startFrame a_changeFrame a_lostAt a_blackAt a_slips a_leftArc a_died a_arcs m_bestSum m_nearest m_nearestTown a_there a_backAt a_sorted a_parts m_seed1 m_darkNow), (cAI g a_tape 900 d_tape), (cAI g a_letters 8 d_letters)] [(cAI g a_r 311 d_r), (cAI g a_fresh 311 uf_17), (cAI g a_st 44 d_st)] [5, 0, 1] [2, 3, 4] (m_nextX l g h0 m_thrown2_1 a_tape 0 p0 m_at 0 m_token m_whole m_nameSize 0 m_place m_trouble2_2 a_letters 0 m_hasHouse a_r a_fresh a_st a_undone a_kept m_undos m_images a_from a_begin a_motor a_change a_startFrame a_changeFrame a_lostAt a_blackAt a_slips a_leftArc a_died a_arcs m_bestSum m_nearest m_nearestTown a_there a_backAt a_sorted a_parts m_seed1 m_darkNow d_tape d_letters (iv_w iv_15 (by decide) (by decide)) (iv_w (show IV 0 0 0 from (by decide)) (by decide) (by decide)) (iv_w hv_m_nameSize (by decide) (by decide))) dX11_house_70 mw489 mw490 mw491 mw5 mw492 rfl 11 rfl rfl 0 _ rfl yk_yX11_next_0 rfl (Nat.le_of_ble_eq_true rfl) (Nat.le_of_ble_eq_true rfl) (Nat.le_of_ble_eq_true rfl) (Nat.le_of_ble_eq_true rfl) (Nat.le_of_ble_eq_true rfl) rfl rfl (by decide) rfl (by decide) (by decide) ?_
      intro w zq
      refine exE6 zq ?_
      clear zq
      intro m_at2_29 m_end2_30 d_letters2_31 m_nameSize2_32 m_token2_33 m_whole2_34 iv_36 zq
      refine exA5 zq ?_
      clear zq
      intro iv_37 hq_38 hq_39 hq_40 hk_41 zq
      subst zq
      refine k_ws [(cAI g a_r 311 d_r), (cAI g a_fresh 311 uf_17), (cAI g a_st 44 d_st), (cO11_i1r1i10r1i2r5i2r12i3r4i2 h0 m_thrown2_1 a_tape 0 p0 m_at2_29 m_end2_30 m_token2_33 m_whole2_34 m_nameSize2_32 0 m_place m_trouble2_2 a_letters 0 m_hasHouse a_r a_fresh a_st a_undone a_kept m_undos m_images a_from a_begin a_motor a_change a_startFrame a_changeFrame a_lostAt a_blackAt a_slips a_leftArc a_died a_arcs m_bestSum m_nearest m_nearestTown a_there a_backAt a_sorted a_parts m_seed1 m_darkNow), (cAI g a_tape 900 d_tape), (cAI g a_letters 8 d_letters2_31)] rfl ?_
      refine k_aload_n X dX11_house_73 1 rfl ?_
      refine k_callVV (n := 0) (As := []) (st := []) X [(cO11_i1r1i10r1i2r5i2r12i3r4i2 h0 m_thrown2_1 a_tape 0 p0 m_at2_29 m_end2_30 m_token2_33 m_whole2_34 m_nameSize2_32 0 m_place m_trouble2_2 a_letters 0 m_hasHouse a_r a_fresh a_st a_undone a_kept m_undos m_images a_from a_begin a_motor a_change a_startFrame a_changeFrame a_lostAt a_blackAt a_slips a_leftArc a_died a_arcs m_bestSum m_nearest m_nearestTown a_there a_backAt a_sorted a_parts m_seed1 m_darkNow), (cAI g a_tape 900 d_tape), (cAI g a_letters 8 d_letters2_31), (cAI g a_fresh 311 uf_17)] [(cAI g a_r 311 d_r), (cAI g a_st 44 d_st)] [3, 4, 5, 1] [0, 2] (m_readLineX l g h0 m_thrown2_1 a_tape 0 p0 m_at2_29 m_end2_30 m_token2_33 m_whole2_34 m_nameSize2_32 0 m_place m_trouble2_2 a_letters 0 m_hasHouse a_r a_fresh a_st a_undone a_kept m_undos m_images a_from a_begin a_motor a_change a_startFrame a_changeFrame a_lostAt a_blackAt a_slips a_leftArc a_died a_arcs m_bestSum m_nearest m_nearestTown a_there a_backAt a_sorted a_parts m_seed1 m_darkNow d_tape d_letters2_31 uf_17 (iv_w iv_15 (by decide) (by decide)) (iv_w iv_36 (by decide) (by decide)) (iv_w iv_37 (by decide) (by decide)) (iv_w (show IV 0 0 0 from (by decide)) (by decide) (by decide)) hp_18 hT_28 hk_41) dX11_house_74 mw505 mw506 mw507 mw5 mw508 rfl 11 rfl rfl 0 _ rfl yk_yX11_readLine_0 rfl (Nat.le_of_ble_eq_true rfl) (Nat.le_of_ble_eq_true rfl) (Nat.le_of_ble_eq_true rfl) (Nat.le_of_ble_eq_true rfl) (Nat.le_of_ble_eq_true rfl) rfl rfl (by decide) rfl (by decide) (by decide) ?_
      intro w zq
      refine exE10 zq ?_
      clear zq
      intro m_at2_42 m_end2_43 m_failed2_44 m_fault2_45 d_fresh2_46 d_letters2_47 m_nameSize2_48 m_place2_49 m_token2_50 m_whole2_51 iv_53 zq
      refine exA8 zq ?_
      clear zq
      intro iv_54 iv_55 hp_56 hq_57 hq_58 hq_59 hq_60 hk_61 zq
      subst zq
      refine k_ws [(cAI g a_r 311 d_r), (cAI g a_st 44 d_st), (cO11_i1r1i10r1i2r5i2r12i3r4i2 h0 m_thrown2_1 a_tape 0 p0 m_at2_42 m_end2_43 m_token2_50 m_whole2_51 m_nameSize2_48 m_fault2_45 m_place2_49 m_trouble2_2 a_letters m_failed2_44 m_hasHouse a_r a_fresh a_st a_undone a_kept m_undos m_images a_from a_begin a_motor a_change a_startFrame a_changeFrame a_lostAt a_blackAt a_slips a_leftArc a_died a_arcs m_bestSum m_nearest m_nearestTown a_there a_backAt a_sorted a_parts m_seed1 m_darkNow), (cAI g a_tape 900 d_tape), (cAI g a_letters 8 d_letters2_47), (cAI g a_fresh 311 d_fresh2_46)] rfl ?_
      refine (fun hL : ∀ (nn_78 : Nat) (uf_62 : Nat → Int32) (uf_65 : Nat → Int32) (u_66 : Int32) (u_67 : Int32) (u_69 : Int32) (u_70 : Int32) (u_72 : Int32) (u_73 : Int32) (u_74 : Int32) (u_76 : Int32), (2 * (901 - u_70.toInt) + (1 - u_67.toInt)).toNat = nn_78 → (RInv uf_62) → (TRI uf_62) → (IV u_67 0 1) → (IV u_70 0 900) → (IV u_74 0 900) → (u_72 = 2 → IV u_74 0 8) → (∀ (m_at2 : Int32) (m_end2 : Int32) (m_failed2 : Int32) (m_fault2 : Int32) (d_fresh2 : Nat → Int32) (m_hasHouse2 : Int32) (m_images2 : Int32) (d_letters2 : Nat → Int32) (m_nameSize2 : Int32) (m_place2 : Int32) (d_r2 : Nat → Int32) (m_size2 : Int32) (d_st2 : Nat → Int32) (m_taped2 : Int32) (m_thrown2 : Int32) (m_token2 : Int32) (m_trouble2 : Int32) (m_undos2 : Int32) (m_whole2 : Int32) (r : Int32), (∃ n_1 : Nat, R_m_houseX_L1 p0 d_tape (fun (u_69 : Int32) (u_70 : Int32) (u_67 : Int32) (u_76 : Int32) (uf_62 : Nat → Int32) (uf_65 : Nat → Int32) (u_74 : Int32) (u_66 : Int32) (u_72 : Int32) (u_73 : Int32) => ∃ m_trouble2_86 : Int32, ∃ r_87 : Int32, (R_m_noX 4 m_trouble2_86 r_87) ∧ m_at2 = u_69 ∧ m_end2 = u_70 ∧ m_failed2 = u_67 ∧ m_fault2 = u_76 ∧ d_fresh2 = uf_62 ∧ m_hasHouse2 = m_hasHouse ∧ m_images2 = m_images ∧ d_letters2 = uf_65 ∧ m_nameSize2 = u_74 ∧ m_place2 = u_66 ∧ d_r2 = d_r ∧ m_size2 = p0 ∧ d_st2 = d_st ∧ m_taped2 = 0 ∧ m_thrown2 = m_thrown2_1 ∧ m_token2 = u_72 ∧ m_trouble2 = m_trouble2_86 ∧ m_undos2 = m_undos ∧ m_whole2 = u_73 ∧ r = r_87) (fun (u_72 : Int32) (uf_62 : Nat → Int32) (u_69 : Int32) (u_76 : Int32) (u_66 : Int32) (u_67 : Int32) (u_70 : Int32) (uf_65 : Nat → Int32) (u_74 : Int32) (u_73 : Int32) => (((u_72 = (0 : Int32)) ∧ (∃ z_96 : Int32, z_96 = uf_62 ((15 : Int32)).toNatClampNeg ∧ (((z_96 = (0 : Int32)) ∧ (∃ m_failed2_99 : Int32, ∃ m_fault2_100 : Int32, ∃ m_place2_101 : Int32, (R_m_badX 6 u_69 u_76 u_66 u_67 m_failed2_99 m_fault2_100 m_place2_101) ∧ ∃ m_trouble2_106 : Int32, ∃ r_107 : Int32, (R_m_noX 4 m_trouble2_106 r_107) ∧ m_at2 = u_69 ∧ m_end2 = u_70 ∧ m_failed2 = m_failed2_99 ∧ m_fault2 = m_fault2_100 ∧ d_fresh2 = uf_62 ∧ m_hasHouse2 = m_hasHouse ∧ m_images2 = m_images ∧ d_letters2 = uf_65 ∧ m_nameSize2 = u_74 ∧ m_place2 = m_place2_101 ∧ d_r2 = d_r ∧ m_size2 = p0 ∧ d_st2 = d_st ∧ m_taped2 = 0 ∧ m_thrown2 = m_thrown2_1 ∧ m_token2 = u_72 ∧ m_trouble2 = m_trouble2_106 ∧ m_undos2 = m_undos ∧ m_whole2 = u_73 ∧ r = r_107)) ∨ ((¬ (z_96 = (0 : Int32))) ∧ (∃ z_110 : Int32, z_110 = uf_62 ((12 : Int32)).toNatClampNeg ∧ (((z_110 = (0 : Int32)) ∧ (∃ m_failed2_115 : Int32, ∃ m_fault2_116 : Int32, ∃ m_place2_117 : Int32, (R_m_badX 6 u_69 u_76 u_66 u_67 m_failed2_115 m_fault2_116 m_place2_117) ∧ ∃ m_trouble2_122 : Int32, ∃ r_123 : Int32, (R_m_noX 4 m_trouble2_122 r_123) ∧ m_at2 = u_69 ∧ m_end2 = u_70 ∧ m_failed2 = m_failed2_115 ∧ m_fault2 = m_fault2_116 ∧ d_fresh2 = uf_62 ∧ m_hasHouse2 = m_hasHouse ∧ m_images2 = m_images ∧ d_letters2 = uf_65 ∧ m_nameSize2 = u_74 ∧ m_place2 = m_place2_117 ∧ d_r2 = d_r ∧ m_size2 = p0 ∧ d_st2 = d_st ∧ m_taped2 = 0 ∧ m_thrown2 = m_thrown2_1 ∧ m_token2 = u_72 ∧ m_trouble2 = m_trouble2_122 ∧ m_undos2 = m_undos ∧ m_whole2 = u_73 ∧ r = r_123)) ∨ ((¬ (z_110 = (0 : Int32))) ∧ (∃ z_127 : Int32, z_127 = uf_62 ((11 : Int32)).toNatClampNeg ∧ (((z_127 ≠ (0 : Int32)) ∧ (∃ f3_133 : Nat → Int32, (R_m_copyRX uf_62 d_r f3_133) ∧ ∃ n_2 : Nat, R_m_houseX_L2 (fun (uf_139 : Nat → Int32) => ∃ n_3 : Nat, R_m_houseX_L3 f3_133 (fun (uf_148 : Nat → Int32) => ∃ n_4 : Nat, R_m_houseX_L4 f3_133 (fun (uf_159 : Nat → Int32) => ∃ n_5 : Nat, R_m_houseX_L5 f3_133 (fun (uf_170 : Nat → Int32) => ∃ n_6 : Nat, R_m_houseX_L6 f3_133 (fun (uf_181 : Nat → Int32) (z_187 : Int32) => m_at2 = u_69 ∧ m_end2 = u_70 ∧ m_failed2 = u_67 ∧ m_fault2 = u_76 ∧ d_fresh2 = uf_62 ∧ m_hasHouse2 = 1 ∧ m_images2 = 0 ∧ d_letters2 = uf_65 ∧ m_nameSize2 = u_74 ∧ m_place2 = u_66 ∧ d_r2 = f3_133 ∧ m_size2 = p0 ∧ d_st2 = uf_181 ∧ m_taped2 = 0 ∧ m_thrown2 = m_thrown2_1 ∧ m_token2 = u_72 ∧ m_trouble2 = m_trouble2_2 ∧ m_undos2 = 0 ∧ m_whole2 = u_73 ∧ r = z_187) n_6 uf_170 0) n_5 uf_159 0) n_4 uf_148 0) n_3 uf_139 0) n_2 d_st 0)) ∨ ((z_127 = (0 : Int32)) ∧ (∃ m_failed2_275 : Int32, ∃ m_fault2_276 : Int32, ∃ m_place2_277 : Int32, (R_m_badX 6 u_69 u_76 u_66 u_67 m_failed2_275 m_fault2_276 m_place2_277) ∧ ∃ m_trouble2_282 : Int32, ∃ r_283 : Int32, (R_m_noX 4 m_trouble2_282 r_283) ∧ m_at2 = u_69 ∧ m_end2 = u_70 ∧ m_failed2 = m_failed2_275 ∧ m_fault2 = m_fault2_276 ∧ d_fresh2 = uf_62 ∧ m_hasHouse2 = m_hasHouse ∧ m_images2 = m_images ∧ d_letters2 = uf_65 ∧ m_nameSize2 = u_74 ∧ m_place2 = m_place2_277 ∧ d_r2 = d_r ∧ m_size2 = p0 ∧ d_st2 = d_st ∧ m_taped2 = 0 ∧ m_thrown2 = m_thrown2_1 ∧ m_token2 = u_72 ∧ m_trouble2 = m_trouble2_282 ∧ m_undos2 = m_undos ∧ m_whole2 = u_73 ∧ r = r_283))))))))))) ∨ ((¬ (u_72 = (0 : Int32))) ∧ (∃ m_failed2_286 : Int32, ∃ m_fault2_287 : Int32, ∃ m_place2_288 : Int32, (R_m_badX 1 u_69 u_76 u_66 u_67 m_failed2_286 m_fault2_287 m_place2_288) ∧ ∃ m_trouble2_294 : Int32, ∃ r_295 : Int32, (R_m_noX 4 m_trouble2_294 r_295) ∧ m_at2 = u_69 ∧ m_end2 = u_70 ∧ m_failed2 = m_failed2_286 ∧ m_fault2 = m_fault2_287 ∧ d_fresh2 = uf_62 ∧ m_hasHouse2 = m_hasHouse ∧ m_images2 = m_images ∧ d_letters2 = uf_65 ∧ m_nameSize2 = u_74 ∧ m_place2 = m_place2_288 ∧ d_r2 = d_r ∧ m_size2 = p0 ∧ d_st2 = d_st ∧ m_taped2 = 0 ∧ m_thrown2 = m_thrown2_1 ∧ m_token2 = u_72 ∧ m_trouble2 = m_trouble2_294 ∧ m_undos2 = m_undos ∧ m_whole2 = u_73 ∧ r = r_295)))) n_1 uf_62 uf_65 u_66 u_67 u_69 u_70 u_72 u_73 u_74 u_76) → R_m_houseX p0 m_taped m_size m_at m_end m_token m_whole m_nameSize m_fault m_place m_failed m_hasHouse m_undos m_images d_tape d_letters d_r d_fresh d_st m_at2 m_end2 m_failed2 m_fault2 d_fresh2 m_hasHouse2 m_images2 d_letters2 m_nameSize2 m_place2 d_r2 m_size2 d_st2 m_taped2 m_thrown2 m_token2 m_trouble2 m_undos2 m_whole2 r) → Wk p l e _ s m args below meth c _ A g _ _ _ [(cAI g a_r 311 d_r), (cAI g a_st 44 d_st), (cO11_i1r1i10r1i2r5i2r12i3r4i2 h0 m_thrown2_1 a_tape 0 p0 u_69 u_70 u_72 u_73 u_74 u_76 u_66 m_trouble2_2 a_letters u_67 m_hasHouse a_r a_fresh a_st a_undone a_kept m_undos m_images a_from a_begin a_motor a_change a_startFrame a_changeFrame a_lostAt a_blackAt a_slips a_leftArc a_died a_arcs m_bestSum m_nearest m_nearestTown a_there a_backAt a_sorted a_parts m_seed1 m_darkNow), (cAI g a_tape 900 d_tape), (cAI g a_letters 8 uf_65), (cAI g a_fresh 311 uf_62)] [(2, .int u_19), (0, .ref h0), (1, .int p0)] 77 [] => hL _ d_fresh2_46 d_letters2_47 m_place2_49 m_failed2_44 m_at2_42 m_end2_43 m_token2_50 m_whole2_51 m_nameSize2_48 m_fault2_45 rfl hp_56 hq_59 (iv_w iv_54 (by decide) (by decide)) (iv_w iv_53 (by decide) (by decide)) (iv_w iv_55 (by decide) (by decide)) hk_61 (fun m_at2 m_end2 m_failed2 m_fault2 d_fresh2 m_hasHouse2 m_images2 d_letters2 m_nameSize2 m_place2 d_r2 m_size2 d_st2 m_taped2 m_thrown2 m_token2 m_trouble2 m_undos2 m_whole2 r h => (KH_0 _ _ _ _ _ _ _ _ _ _ _ _ _ _ _ _ _ _ _ _ ⟨0 + 1, (Or.inl ⟨h_25, ⟨m_at2_29, m_end2_30, d_letters2_31, m_nameSize2_32, m_token2_33, m_whole2_34, hq_40, ⟨m_at2_42, m_end2_43, m_failed2_44, m_fault2_45, d_fresh2_46, d_letters2_47, m_nameSize2_48, m_place2_49, m_token2_50, m_whole2_51, hq_60, h⟩⟩⟩)⟩))) ?_
      refine fun nn_78 => Nat.strongRecOn nn_78 (fun nn_78 ih_80 => ?_)
      intro uf_62 uf_65 u_66 u_67 u_69 u_70 u_72 u_73 u_74 u_76 hm_79 hp_63 hT_64 hv_68 hv_71 hv_75 hx_77 KH_1
      refine k_aload_n X dX11_house_77 1 rfl ?_
      refine k_get (ci := 11) X inlX11 rfl 13 (by decide) dX11_house_78 mw469 2 rfl rfl ?_
      refine k_if_ne 104 X dX11_house_81 (by decide) (fun h_81 => ?_) (fun h_81 => ?_)
      · skip
        have iv_82 : IV u_67 1 1 := iv_neL h_81 hv_68 (show IV 0 0 0 from (by decide)) (by decide)
        refine k_aload_n X dX11_house_104 1 rfl ?_
        refine k_get (ci := 11) X inlX11 rfl 13 (by decide) dX11_house_105 mw469 2 rfl rfl ?_
        refine k_if_ne 127 X dX11_house_108 (by decide) (fun h_83 => ?_) (fun h_83 => (iv_eqN h_83 iv_82 (show IV 0 0 0 from (by decide)) (by decide)).elim)
        refine k_aload_n X dX11_house_127 1 rfl ?_
        refine k_get (ci := 11) X inlX11 rfl 13 (by decide) dX11_house_128 mw469 2 rfl rfl ?_
        refine k_if_ne 174 X dX11_house_131 (by decide) (fun h_84 => ?_) (fun h_84 => (iv_eqN h_84 iv_82 (show IV 0 0 0 from (by decide)) (by decide)).elim)
        refine k_aload_n X dX11_house_174 1 rfl ?_
        refine k_get (ci := 11) X inlX11 rfl 13 (by decide) dX11_house_175 mw469 2 rfl rfl ?_
        refine k_if_eq 187 X dX11_house_178 (by decide) (fun h_85 => (iv_eqN h_85 iv_82 (show IV 0 0 0 from (by decide)) (by decide)).elim) (fun h_85 => ?_)
        refine k_aload_n X dX11_house_181 1 rfl ?_
        refine k_iconst (v := 4) X dX11_house_182 (by decide) ?_
        refine k_callVI (n := 1) (As := [.int 4]) (st := []) X [(cO11_i1r1i10r1i2r5i2r12i3r4i2 h0 m_thrown2_1 a_tape 0 p0 u_69 u_70 u_72 u_73 u_74 u_76 u_66 m_trouble2_2 a_letters u_67 m_hasHouse a_r a_fresh a_st a_undone a_kept m_undos m_images a_from a_begin a_motor a_change a_startFrame a_changeFrame a_lostAt a_blackAt a_slips a_leftArc a_died a_arcs m_bestSum m_nearest m_nearestTown a_there a_backAt a_sorted a_parts m_seed1 m_darkNow)] [(cAI g a_r 311 d_r), (cAI g a_st 44 d_st), (cAI g a_tape 900 d_tape), (cAI g a_letters 8 uf_65), (cAI g a_fresh 311 uf_62)] [2] [0, 1, 3, 4, 5] (m_noX l g h0 4 m_thrown2_1 a_tape 0 p0 u_69 u_70 u_72 u_73 u_74 u_76 u_66 m_trouble2_2 a_letters u_67 m_hasHouse a_r a_fresh a_st a_undone a_kept m_undos m_images a_from a_begin a_motor a_change a_startFrame a_changeFrame a_lostAt a_blackAt a_slips a_leftArc a_died a_arcs m_bestSum m_nearest m_nearestTown a_there a_backAt a_sorted a_parts m_seed1 m_darkNow) dX11_house_183 mw485 mw486 mw487 mw5 mw488 rfl 11 rfl rfl 0 _ rfl yk_yX11_no_1 rfl (Nat.le_of_ble_eq_true rfl) (Nat.le_of_ble_eq_true rfl) (Nat.le_of_ble_eq_true rfl) (Nat.le_of_ble_eq_true rfl) (Nat.le_of_ble_eq_true rfl) rfl rfl (by decide) rfl (by decide) (by decide) ?_
        rintro r_87 w ⟨m_trouble2_86, iv_88, hq_89, rfl⟩
        refine k_ws [(cAI g a_r 311 d_r), (cAI g a_st 44 d_st), (cAI g a_tape 900 d_tape), (cAI g a_letters 8 uf_65), (cAI g a_fresh 311 uf_62), (cO11_i1r1i10r1i2r5i2r12i3r4i2 h0 m_thrown2_1 a_tape 0 p0 u_69 u_70 u_72 u_73 u_74 u_76 u_66 m_trouble2_86 a_letters u_67 m_hasHouse a_r a_fresh a_st a_undone a_kept m_undos m_images a_from a_begin a_motor a_change a_startFrame a_changeFrame a_lostAt a_blackAt a_slips a_leftArc a_died a_arcs m_bestSum m_nearest m_nearestTown a_there a_backAt a_sorted a_parts m_seed1 m_darkNow)] rfl ?_
        exact k_iret X hr dX11_house_186 (Nat.le_of_ble_eq_true rfl) (Nat.le_of_ble_eq_true rfl) [5, 2, 3, 0, 4, 1] (by decide) rfl rfl ⟨u_69, u_70, u_67, u_76, uf_62, m_hasHouse, m_images, uf_65, u_74, u_66, d_r, p0, d_st, 0, m_thrown2_1, u_72, m_trouble2_86, m_undos, u_73, (iv_w hv_71 (by decide) (by decide)), (iv_w iv_82 (by decide) (by decide)), (iv_w hv_m_hasHouse (by decide) (by decide)), (iv_w hv_m_images (by decide) (by decide)), (iv_w hv_75 (by decide) (by decide)), (iv_w iv_15 (by decide) (by decide)), (iv_w (show IV 0 0 0 from (by decide)) (by decide) (by decide)), (iv_w hv_m_undos (by decide) (by decide)), hp_d_r, hp_63, (by refine ⟨fun q => ?_, fun q => ?_⟩ <;> first | rfl | (exfalso; omega)), hr_0, (KH_1 _ _ _ _ _ _ _ _ _ _ _ _ _ _ _ _ _ _ _ _ ⟨0 + 1, (Or.inl ⟨h_81, ⟨m_trouble2_86, r_87, hq_89, ⟨rfl, rfl, rfl, rfl, rfl, rfl, rfl, rfl, rfl, rfl, rfl, rfl, rfl, rfl, rfl, rfl, rfl, rfl, rfl, rfl⟩⟩⟩)⟩), rfl⟩
      · skip
        have iv_90 : IV u_67 0 0 := iv_meet hv_68 (iv_e h_81 (show IV 0 0 0 from (by decide))) (by decide) (by decide)
        refine k_aload_n X dX11_house_84 1 rfl ?_
        refine k_get (ci := 11) X inlX11 rfl 6 (by decide) dX11_house_85 mw472 2 rfl rfl ?_
        refine k_bipush (v := 59) X dX11_house_88 (by decide) ?_
        refine k_ic_ne 104 X dX11_house_90 (by decide) (fun h_91 => ?_) (fun h_91 => ?_)
        · skip
          refine k_aload_n X dX11_house_104 1 rfl ?_
          refine k_get (ci := 11) X inlX11 rfl 13 (by decide) dX11_house_105 mw469 2 rfl rfl ?_
          refine k_if_ne 127 X dX11_house_108 (by decide) (fun h_92 => absurd (iv_eq iv_90 (show IV 0 0 0 from (by decide))) h_92) (fun h_92 => ?_)
          refine k_aload_n X dX11_house_111 1 rfl ?_
          refine k_get (ci := 11) X inlX11 rfl 6 (by decide) dX11_house_112 mw472 2 rfl rfl ?_
          refine k_if_eq 127 X dX11_house_115 (by decide) (fun h_93 => ?_) (fun h_93 => ?_)
          · skip
            have iv_94 : IV u_72 0 0 := iv_meet (iv_any u_72) (iv_e h_93 (show IV 0 0 0 from (by decide))) (by decide) (by decide)
            refine k_aload_n X dX11_house_127 1 rfl ?_
            refine k_get (ci := 11) X inlX11 rfl 13 (by decide) dX11_house_128 mw469 2 rfl rfl ?_
            refine k_if_ne 174 X dX11_house_131 (by decide) (fun h_95 => absurd (iv_eq iv_90 (show IV 0 0 0 from (by decide))) h_95) (fun h_95 => ?_)
            refine k_aload_n X dX11_house_134 1 rfl ?_
            refine k_get (ci := 11) X inlX11 rfl 16 (by decide) dX11_house_135 mw171 2 rfl rfl ?_
            refine k_bipush (v := 15) X dX11_house_138 (by decide) ?_
            refine k_iald X dX11_house_140 5 rfl (by unfold vp_in; decide) ?_
            refine k_nm (fun z_96 ez_96 => ?_)
            refine k_if_eq 164 X dX11_house_141 (by decide) (fun h_97 => ?_) (fun h_97 => ?_)
            · skip
              have iv_98 : IV z_96 0 0 := iv_meet (iv_any z_96) (iv_e h_97 (show IV 0 0 0 from (by decide))) (by decide) (by decide)
              refine k_aload_n X dX11_house_164 1 rfl ?_
              refine k_bipush (v := 6) X dX11_house_165 (by decide) ?_
              refine k_aload_n X dX11_house_167 1 rfl ?_
              refine k_get (ci := 11) X inlX11 rfl 4 (by decide) dX11_house_168 mw473 2 rfl rfl ?_
              refine k_callVV (n := 2) (As := [.int 6, .int u_69]) (st := []) X [(cO11_i1r1i10r1i2r5i2r12i3r4i2 h0 m_thrown2_1 a_tape 0 p0 u_69 u_70 u_72 u_73 u_74 u_76 u_66 m_trouble2_2 a_letters u_67 m_hasHouse a_r a_fresh a_st a_undone a_kept m_undos m_images a_from a_begin a_motor a_change a_startFrame a_changeFrame a_lostAt a_blackAt a_slips a_leftArc a_died a_arcs m_bestSum m_nearest m_nearestTown a_there a_backAt a_sorted a_parts m_seed1 m_darkNow)] [(cAI g a_r 311 d_r), (cAI g a_st 44 d_st), (cAI g a_tape 900 d_tape), (cAI g a_letters 8 uf_65), (cAI g a_fresh 311 uf_62)] [2] [0, 1, 3, 4, 5] (m_badX l g h0 6 u_69 m_thrown2_1 a_tape 0 p0 u_69 u_70 u_72 u_73 u_74 u_76 u_66 m_trouble2_2 a_letters u_67 m_hasHouse a_r a_fresh a_st a_undone a_kept m_undos m_images a_from a_begin a_motor a_change a_startFrame a_changeFrame a_lostAt a_blackAt a_slips a_leftArc a_died a_arcs m_bestSum m_nearest m_nearestTown a_there a_backAt a_sorted a_parts m_seed1 m_darkNow (iv_w iv_90 (by decide) (by decide))) dX11_house_171 mw519 mw520 mw521 mw5 mw522 rfl 11 rfl rfl 0 _ rfl yk_yX11_bad_2 rfl (Nat.le_of_ble_eq_true rfl) (Nat.le_of_ble_eq_true rfl) (Nat.le_of_ble_eq_true rfl) (Nat.le_of_ble_eq_true rfl) (Nat.le_of_ble_eq_true rfl) rfl rfl (by decide) rfl (by decide) (by decide) ?_
              rintro w ⟨m_failed2_99, m_fault2_100, m_place2_101, iv_103, hq_104, rfl⟩
              refine k_ws [(cAI g a_r 311 d_r), (cAI g a_st 44 d_st), (cAI g a_tape 900 d_tape), (cAI g a_letters 8 uf_65), (cAI g a_fresh 311 uf_62), (cO11_i1r1i10r1i2r5i2r12i3r4i2 h0 m_thrown2_1 a_tape 0 p0 u_69 u_70 u_72 u_73 u_74 m_fault2_100 m_place2_101 m_trouble2_2 a_letters m_failed2_99 m_hasHouse a_r a_fresh a_st a_undone a_kept m_undos m_images a_from a_begin a_motor a_change a_startFrame a_changeFrame a_lostAt a_blackAt a_slips a_leftArc a_died a_arcs m_bestSum m_nearest m_nearestTown a_there a_backAt a_sorted a_parts m_seed1 m_darkNow)] rfl ?_
              refine k_aload_n X dX11_house_174 1 rfl ?_
              refine k_get (ci := 11) X inlX11 rfl 13 (by decide) dX11_house_175 mw469 5 rfl rfl ?_
              refine k_if_eq 187 X dX11_house_178 (by decide) (fun h_105 => (iv_eqN h_105 iv_103 (show IV 0 0 0 from (by decide)) (by decide)).elim) (fun h_105 => ?_)
              refine k_aload_n X dX11_house_181 1 rfl ?_
              refine k_iconst (v := 4) X dX11_house_182 (by decide) ?_
              refine k_callVI (n := 1) (As := [.int 4]) (st := []) X [(cO11_i1r1i10r1i2r5i2r12i3r4i2 h0 m_thrown2_1 a_tape 0 p0 u_69 u_70 u_72 u_73 u_74 m_fault2_100 m_place2_101 m_trouble2_2 a_letters m_failed2_99 m_hasHouse a_r a_fresh a_st a_undone a_kept m_undos m_images a_from a_begin a_motor a_change a_startFrame a_changeFrame a_lostAt a_blackAt a_slips a_leftArc a_died a_arcs m_bestSum m_nearest m_nearestTown a_there a_backAt a_sorted a_parts m_seed1 m_darkNow)] [(cAI g a_r 311 d_r), (cAI g a_st 44 d_st), (cAI g a_tape 900 d_tape), (cAI g a_letters 8 uf_65), (cAI g a_fresh 311 uf_62)] [5] [0, 1, 2, 3, 4] (m_noX l g h0 4 m_thrown2_1 a_tape 0 p0 u_69 u_70 u_72 u_73 u_74 m_fault2_100 m_place2_101 m_trouble2_2 a_letters m_failed2_99 m_hasHouse a_r a_fresh a_st a_undone a_kept m_undos m_images a_from a_begin a_motor a_change a_startFrame a_changeFrame a_lostAt a_blackAt a_slips a_leftArc a_died a_arcs m_bestSum m_nearest m_nearestTown a_there a_backAt a_sorted a_parts m_seed1 m_darkNow) dX11_house_183 mw485 mw486 mw487 mw5 mw488 rfl 11 rfl rfl 0 _ rfl yk_yX11_no_1 rfl (Nat.le_of_ble_eq_true rfl) (Nat.le_of_ble_eq_true rfl) (Nat.le_of_ble_eq_true rfl) (Nat.le_of_ble_eq_true rfl) (Nat.le_of_ble_eq_true rfl) rfl rfl (by decide) rfl (by decide) (by decide) ?_
              rintro r_107 w ⟨m_trouble2_106, iv_108, hq_109, rfl⟩
              refine k_ws [(cAI g a_r 311 d_r), (cAI g a_st 44 d_st), (cAI g a_tape 900 d_tape), (cAI g a_letters 8 uf_65), (cAI g a_fresh 311 uf_62), (cO11_i1r1i10r1i2r5i2r12i3r4i2 h0 m_thrown2_1 a_tape 0 p0 u_69 u_70 u_72 u_73 u_74 m_fault2_100 m_place2_101 m_trouble2_106 a_letters m_failed2_99 m_hasHouse a_r a_fresh a_st a_undone a_kept m_undos m_images a_from a_begin a_motor a_change a_startFrame a_changeFrame a_lostAt a_blackAt a_slips a_leftArc a_died a_arcs m_bestSum m_nearest m_nearestTown a_there a_backAt a_sorted a_parts m_seed1 m_darkNow)] rfl ?_
              exact k_iret X hr dX11_house_186 (Nat.le_of_ble_eq_true rfl) (Nat.le_of_ble_eq_true rfl) [5, 2, 3, 0, 4, 1] (by decide) rfl rfl ⟨u_69, u_70, m_failed2_99, m_fault2_100, uf_62, m_hasHouse, m_images, uf_65, u_74, m_place2_101, d_r, p0, d_st, 0, m_thrown2_1, u_72, m_trouble2_106, m_undos, u_73, (iv_w hv_71 (by decide) (by decide)), (iv_w iv_103 (by decide) (by decide)), (iv_w hv_m_hasHouse (by decide) (by decide)), (iv_w hv_m_images (by decide) (by decide)), (iv_w hv_75 (by decide) (by decide)), (iv_w iv_15 (by decide) (by decide)), (iv_w (show IV 0 0 0 from (by decide)) (by decide) (by decide)), (iv_w hv_m_undos (by decide) (by decide)), hp_d_r, hp_63, (by refine ⟨fun q => ?_, fun q => ?_⟩ <;> first | rfl | (exfalso; omega)), hr_0, (KH_1 _ _ _ _ _ _ _ _ _ _ _ _ _ _ _ _ _ _ _ _ ⟨0 + 1, (Or.inr ⟨h_81, (Or.inl ⟨h_91, (Or.inl ⟨h_93, ⟨z_96, ez_96, (Or.inl ⟨h_97, ⟨m_failed2_99, m_fault2_100, m_place2_101, hq_104, ⟨m_trouble2_106, r_107, hq_109, ⟨rfl, rfl, rfl, rfl, rfl, rfl, rfl, rfl, rfl, rfl, rfl, rfl, rfl, rfl, rfl, rfl, rfl, rfl, rfl, rfl⟩⟩⟩⟩)⟩⟩)⟩)⟩)⟩), rfl⟩
            · skip
              refine k_aload_n X dX11_house_144 1 rfl ?_
              refine k_get (ci := 11) X inlX11 rfl 16 (by decide) dX11_house_145 mw171 2 rfl rfl ?_
              refine k_bipush (v := 12) X dX11_house_148 (by decide) ?_
              refine k_iald X dX11_house_150 5 rfl (by unfold vp_in; decide) ?_
              refine k_nm (fun z_110 ez_110 => ?_)
              have i_111 : z_110.toInt = (uf_62 12).toInt := by rw [ez_110]; rfl
              have iv_112 : IV z_110 0 8 := rb_12 ez_110 hp_63
              refine k_if_eq 164 X dX11_house_151 (by decide) (fun h_113 => ?_) (fun h_113 => ?_)
              · skip
                have iv_114 : IV z_110 0 0 := iv_meet iv_112 (iv_e h_113 (show IV 0 0 0 from (by decide))) (by decide) (by decide)
                refine k_aload_n X dX11_house_164 1 rfl ?_
                refine k_bipush (v := 6) X dX11_house_165 (by decide) ?_
                refine k_aload_n X dX11_house_167 1 rfl ?_
                refine k_get (ci := 11) X inlX11 rfl 4 (by decide) dX11_house_168 mw473 2 rfl rfl ?_
                refine k_callVV (n := 2) (As := [.int 6, .int u_69]) (st := []) X [(cO11_i1r1i10r1i2r5i2r12i3r4i2 h0 m_thrown2_1 a_tape 0 p0 u_69 u_70 u_72 u_73 u_74 u_76 u_66 m_trouble2_2 a_letters u_67 m_hasHouse a_r a_fresh a_st a_undone a_kept m_undos m_images a_from a_begin a_motor a_change a_startFrame a_changeFrame a_lostAt a_blackAt a_slips a_leftArc a_died a_arcs m_bestSum m_nearest m_nearestTown a_there a_backAt a_sorted a_parts m_seed1 m_darkNow)] [(cAI g a_r 311 d_r), (cAI g a_st 44 d_st), (cAI g a_tape 900 d_tape), (cAI g a_letters 8 uf_65), (cAI g a_fresh 311 uf_62)] [2] [0, 1, 3, 4, 5] (m_badX l g h0 6 u_69 m_thrown2_1 a_tape 0 p0 u_69 u_70 u_72 u_73 u_74 u_76 u_66 m_trouble2_2 a_letters u_67 m_hasHouse a_r a_fresh a_st a_undone a_kept m_undos m_images a_from a_begin a_motor a_change a_startFrame a_changeFrame a_lostAt a_blackAt a_slips a_leftArc a_died a_arcs m_bestSum m_nearest m_nearestTown a_there a_backAt a_sorted a_parts m_seed1 m_darkNow (iv_w iv_90 (by decide) (by decide))) dX11_house_171 mw519 mw520 mw521 mw5 mw522 rfl 11 rfl rfl 0 _ rfl yk_yX11_bad_2 rfl (Nat.le_of_ble_eq_true rfl) (Nat.le_of_ble_eq_true rfl) (Nat.le_of_ble_eq_true rfl) (Nat.le_of_ble_eq_true rfl) (Nat.le_of_ble_eq_true rfl) rfl rfl (by decide) rfl (by decide) (by decide) ?_
                rintro w ⟨m_failed2_115, m_fault2_116, m_place2_117, iv_119, hq_120, rfl⟩
                refine k_ws [(cAI g a_r 311 d_r), (cAI g a_st 44 d_st), (cAI g a_tape 900 d_tape), (cAI g a_letters 8 uf_65), (cAI g a_fresh 311 uf_62), (cO11_i1r1i10r1i2r5i2r12i3r4i2 h0 m_thrown2_1 a_tape 0 p0 u_69 u_70 u_72 u_73 u_74 m_fault2_116 m_place2_117 m_trouble2_2 a_letters m_failed2_115 m_hasHouse a_r a_fresh a_st a_undone a_kept m_undos m_images a_from a_begin a_motor a_change a_startFrame a_changeFrame a_lostAt a_blackAt a_slips a_leftArc a_died a_arcs m_bestSum m_nearest m_nearestTown a_there a_backAt a_sorted a_parts m_seed1 m_darkNow)] rfl ?_
                refine k_aload_n X dX11_house_174 1 rfl ?_
                refine k_get (ci := 11) X inlX11 rfl 13 (by decide) dX11_house_175 mw469 5 rfl rfl ?_
                refine k_if_eq 187 X dX11_house_178 (by decide) (fun h_121 => (iv_eqN h_121 iv_119 (show IV 0 0 0 from (by decide)) (by decide)).elim) (fun h_121 => ?_)
                refine k_aload_n X dX11_house_181 1 rfl ?_
                refine k_iconst (v := 4) X dX11_house_182 (by decide) ?_
                refine k_callVI (n := 1) (As := [.int 4]) (st := []) X [(cO11_i1r1i10r1i2r5i2r12i3r4i2 h0 m_thrown2_1 a_tape 0 p0 u_69 u_70 u_72 u_73 u_74 m_fault2_116 m_place2_117 m_trouble2_2 a_letters m_failed2_115 m_hasHouse a_r a_fresh a_st a_undone a_kept m_undos m_images a_from a_begin a_motor a_change a_startFrame a_changeFrame a_lostAt a_blackAt a_slips a_leftArc a_died a_arcs m_bestSum m_nearest m_nearestTown a_there a_backAt a_sorted a_parts m_seed1 m_darkNow)] [(cAI g a_r 311 d_r), (cAI g a_st 44 d_st), (cAI g a_tape 900 d_tape), (cAI g a_letters 8 uf_65), (cAI g a_fresh 311 uf_62)] [5] [0, 1, 2, 3, 4] (m_noX l g h0 4 m_thrown2_1 a_tape 0 p0 u_69 u_70 u_72 u_73 u_74 m_fault2_116 m_place2_117 m_trouble2_2 a_letters m_failed2_115 m_hasHouse a_r a_fresh a_st a_undone a_kept m_undos m_images a_from a_begin a_motor a_change a_startFrame a_changeFrame a_lostAt a_blackAt a_slips a_leftArc a_died a_arcs m_bestSum m_nearest m_nearestTown a_there a_backAt a_sorted a_parts m_seed1 m_darkNow) dX11_house_183 mw485 mw486 mw487 mw5 mw488 rfl 11 rfl rfl 0 _ rfl yk_yX11_no_1 rfl (Nat.le_of_ble_eq_true rfl) (Nat.le_of_ble_eq_true rfl) (Nat.le_of_ble_eq_true rfl) (Nat.le_of_ble_eq_true rfl) (Nat.le_of_ble_eq_true rfl) rfl rfl (by decide) rfl (by decide) (by decide) ?_
                rintro r_123 w ⟨m_trouble2_122, iv_124, hq_125, rfl⟩
                refine k_ws [(cAI g a_r 311 d_r), (cAI g a_st 44 d_st), (cAI g a_tape 900 d_tape), (cAI g a_letters 8 uf_65), (cAI g a_fresh 311 uf_62), (cO11_i1r1i10r1i2r5i2r12i3r4i2 h0 m_thrown2_1 a_tape 0 p0 u_69 u_70 u_72 u_73 u_74 m_fault2_116 m_place2_117 m_trouble2_122 a_letters m_failed2_115 m_hasHouse a_r a_fresh a_st a_undone a_kept m_undos m_images a_from a_begin a_motor a_change a_startFrame a_changeFrame a_lostAt a_blackAt a_slips a_leftArc a_died a_arcs m_bestSum m_nearest m_nearestTown a_there a_backAt a_sorted a_parts m_seed1 m_darkNow)] rfl ?_
                exact k_iret X hr dX11_house_186 (Nat.le_of_ble_eq_true rfl) (Nat.le_of_ble_eq_true rfl) [5, 2, 3, 0, 4, 1] (by decide) rfl rfl ⟨u_69, u_70, m_failed2_115, m_fault2_116, uf_62, m_hasHouse, m_images, uf_65, u_74, m_place2_117, d_r, p0, d_st, 0, m_thrown2_1, u_72, m_trouble2_122, m_undos, u_73, (iv_w hv_71 (by decide) (by decide)), (iv_w iv_119 (by decide) (by decide)), (iv_w hv_m_hasHouse (by decide) (by decide)), (iv_w hv_m_images (by decide) (by decide)), (iv_w hv_75 (by decide) (by decide)), (iv_w iv_15 (by decide) (by decide)), (iv_w (show IV 0 0 0 from (by decide)) (by decide) (by decide)), (iv_w hv_m_undos (by decide) (by decide)), hp_d_r, hp_63, (by refine ⟨fun q => ?_, fun q => ?_⟩ <;> first | rfl | (exfalso; omega)), hr_0, (KH_1 _ _ _ _ _ _ _ _ _ _ _ _ _ _ _ _ _ _ _ _ ⟨0 + 1, (Or.inr ⟨h_81, (Or.inl ⟨h_91, (Or.inl ⟨h_93, ⟨z_96, ez_96, (Or.inr ⟨h_97, ⟨z_110, ez_110, (Or.inl ⟨h_113, ⟨m_failed2_115, m_fault2_116, m_place2_117, hq_120, ⟨m_trouble2_122, r_123, hq_125, ⟨rfl, rfl, rfl, rfl, rfl, rfl, rfl, rfl, rfl, rfl, rfl, rfl, rfl, rfl, rfl, rfl, rfl, rfl, rfl, rfl⟩⟩⟩⟩)⟩⟩)⟩⟩)⟩)⟩)⟩), rfl⟩
              · skip
                have iv_126 : IV z_110 1 8 := iv_neL h_113 iv_112 (show IV 0 0 0 from (by decide)) (by decide)
                refine k_aload_n X dX11_house_154 1 rfl ?_
                refine k_get (ci := 11) X inlX11 rfl 16 (by decide) dX11_house_155 mw171 2 rfl rfl ?_
                refine k_bipush (v := 11) X dX11_house_158 (by decide) ?_
                refine k_iald X dX11_house_160 5 rfl (by unfold vp_in; decide) ?_
                refine k_nm (fun z_127 ez_127 => ?_)
                have i_128 : z_127.toInt = (uf_62 11).toInt := by rw [ez_127]; rfl
                have iv_129 : IV z_127 0 4 := rb_11 ez_127 hp_63
                refine k_if_ne 174 X dX11_house_161 (by decide) (fun h_130 => ?_) (fun h_130 => ?_)
                · skip
                  have iv_131 : IV z_127 1 4 := iv_neL h_130 iv_129 (show IV 0 0 0 from (by decide)) (by decide)
                  refine k_aload_n X dX11_house_174 1 rfl ?_
                  refine k_get (ci := 11) X inlX11 rfl 13 (by decide) dX11_house_175 mw469 2 rfl rfl ?_
                  refine k_if_eq 187 X dX11_house_178 (by decide) (fun h_132 => ?_) (fun h_132 => absurd (iv_eq iv_90 (show IV 0 0 0 from (by decide))) h_132)
                  refine k_aload_n X dX11_house_187 1 rfl ?_
                  refine k_get (ci := 11) X inlX11 rfl 16 (by decide) dX11_house_188 mw171 2 rfl rfl ?_
                  refine k_iconst (v := 0) X dX11_house_191 (by decide) ?_
                  refine k_aload_n X dX11_house_192 1 rfl ?_
                  refine k_get (ci := 11) X inlX11 rfl 15 (by decide) dX11_house_193 mw170 2 rfl rfl ?_
                  refine k_iconst (v := 0) X dX11_house_196 (by decide) ?_
                  refine k_sipush (v := 311) X dX11_house_197 (by decide) ?_
                  refine k_callSV (n := 5) (As := [.ref a_fresh, .int 0, .ref a_r, .int 0, .int 311]) (st := []) X [(cAI g a_fresh 311 uf_62), (cAI g a_r 311 d_r)] [(cAI g a_st 44 d_st), (cO11_i1r1i10r1i2r5i2r12i3r4i2 h0 m_thrown2_1 a_tape 0 p0 u_69 u_70 u_72 u_73 u_74 u_76 u_66 m_trouble2_2 a_letters u_67 m_hasHouse a_r a_fresh a_st a_undone a_kept m_undos m_images a_from a_begin a_motor a_change a_startFrame a_changeFrame a_lostAt a_blackAt a_slips a_leftArc a_died a_arcs m_bestSum m_nearest m_nearestTown a_there a_backAt a_sorted a_parts m_seed1 m_darkNow), (cAI g a_tape 900 d_tape), (cAI g a_letters 8 uf_65)] [5, 0] [1, 2, 3, 4] (m_copyRX l g a_fresh a_r uf_62 d_r hp_63) dX11_house_200 mw619 mw620 mw5 mw621 yk_yX11_copy_5 rfl (Nat.le_of_ble_eq_true rfl) (Nat.le_of_ble_eq_true rfl) (Nat.le_of_ble_eq_true rfl) (Nat.le_of_ble_eq_true rfl) (Nat.le_of_ble_eq_true rfl) rfl rfl (by decide) rfl (by decide) (by decide) ?_
                  rintro w ⟨f3_133, hq_135, hq_136, hq_137, rfl⟩
                  refine k_ws [(cAI g a_st 44 d_st), (cO11_i1r1i10r1i2r5i2r12i3r4i2 h0 m_thrown2_1 a_tape 0 p0 u_69 u_70 u_72 u_73 u_74 u_76 u_66 m_trouble2_2 a_letters u_67 m_hasHouse a_r a_fresh a_st a_undone a_kept m_undos m_images a_from a_begin a_motor a_change a_startFrame a_changeFrame a_lostAt a_blackAt a_slips a_leftArc a_died a_arcs m_bestSum m_nearest m_nearestTown a_there a_backAt a_sorted a_parts m_seed1 m_darkNow), (cAI g a_tape 900 d_tape), (cAI g a_letters 8 uf_65), (cAI g a_fresh 311 uf_62), (cAI g a_r 311 f3_133)] rfl ?_
                  have hT_138 : TRI f3_133 := hq_136 hT_64
                  refine k_iconst (v := 0) X dX11_house_203 (by decide) ?_
                  refine k_istore_n [(2, .int 0), (0, .ref h0), (1, .int p0)] X dX11_house_204 (by decide) rfl ?_
                  refine (fun hL : ∀ (nn_142 : Nat) (uf_139 : Nat → Int32) (u_140 : Int32), (44 - u_140.toInt).toNat = nn_142 → (IV u_140 0 255) → (∀ (m_at2 : Int32) (m_end2 : Int32) (m_failed2 : Int32) (m_fault2 : Int32) (d_fresh2 : Nat → Int32) (m_hasHouse2 : Int32) (m_images2 : Int32) (d_letters2 : Nat → Int32) (m_nameSize2 : Int32) (m_place2 : Int32) (d_r2 : Nat → Int32) (m_size2 : Int32) (d_st2 : Nat → Int32) (m_taped2 : Int32) (m_thrown2 : Int32) (m_token2 : Int32) (m_trouble2 : Int32) (m_undos2 : Int32) (m_whole2 : Int32) (r : Int32), (∃ n_2 : Nat, R_m_houseX_L2 (fun (uf_139 : Nat → Int32) => ∃ n_3 : Nat, R_m_houseX_L3 f3_133 (fun (uf_148 : Nat → Int32) => ∃ n_4 : Nat, R_m_houseX_L4 f3_133 (fun (uf_159 : Nat → Int32) => ∃ n_5 : Nat, R_m_houseX_L5 f3_133 (fun (uf_170 : Nat → Int32) => ∃ n_6 : Nat, R_m_houseX_L6 f3_133 (fun (uf_181 : Nat → Int32) (z_187 : Int32) => m_at2 = u_69 ∧ m_end2 = u_70 ∧ m_failed2 = u_67 ∧ m_fault2 = u_76 ∧ d_fresh2 = uf_62 ∧ m_hasHouse2 = 1 ∧ m_images2 = 0 ∧ d_letters2 = uf_65 ∧ m_nameSize2 = u_74 ∧ m_place2 = u_66 ∧ d_r2 = f3_133 ∧ m_size2 = p0 ∧ d_st2 = uf_181 ∧ m_taped2 = 0 ∧ m_thrown2 = m_thrown2_1 ∧ m_token2 = u_72 ∧ m_trouble2 = m_trouble2_2 ∧ m_undos2 = 0 ∧ m_whole2 = u_73 ∧ r = z_187) n_6 uf_170 0) n_5 uf_159 0) n_4 uf_148 0) n_3 uf_139 0) n_2 uf_139 u_140) → R_m_houseX p0 m_taped m_size m_at m_end m_token m_whole m_nameSize m_fault m_place m_failed m_hasHouse m_undos m_images d_tape d_letters d_r d_fresh d_st m_at2 m_end2 m_failed2 m_fault2 d_fresh2 m_hasHouse2 m_images2 d_letters2 m_nameSize2 m_place2 d_r2 m_size2 d_st2 m_taped2 m_thrown2 m_token2 m_trouble2 m_undos2 m_whole2 r) → Wk p l e _ s m args below meth c _ A g _ _ _ [(cAI g a_st 44 uf_139), (cO11_i1r1i10r1i2r5i2r12i3r4i2 h0 m_thrown2_1 a_tape 0 p0 u_69 u_70 u_72 u_73 u_74 u_76 u_66 m_trouble2_2 a_letters u_67 m_hasHouse a_r a_fresh a_st a_undone a_kept m_undos m_images a_from a_begin a_motor a_change a_startFrame a_changeFrame a_lostAt a_blackAt a_slips a_leftArc a_died a_arcs m_bestSum m_nearest m_nearestTown a_there a_backAt a_sorted a_parts m_seed1 m_darkNow), (cAI g a_tape 900 d_tape), (cAI g a_letters 8 uf_65), (cAI g a_fresh 311 uf_62), (cAI g a_r 311 f3_133)] [(2, .int u_140), (0, .ref h0), (1, .int p0)] 205 [] => hL _ d_st 0 rfl (iv_w (show IV 0 0 0 from (by decide)) (by decide) (by decide)) (fun m_at2 m_end2 m_failed2 m_fault2 d_fresh2 m_hasHouse2 m_images2 d_letters2 m_nameSize2 m_place2 d_r2 m_size2 d_st2 m_taped2 m_thrown2 m_token2 m_trouble2 m_undos2 m_whole2 r h => (KH_1 _ _ _ _ _ _ _ _ _ _ _ _ _ _ _ _ _ _ _ _ ⟨0 + 1, (Or.inr ⟨h_81, (Or.inl ⟨h_91, (Or.inl ⟨h_93, ⟨z_96, ez_96, (Or.inr ⟨h_97, ⟨z_110, ez_110, (Or.inr ⟨h_113, ⟨z_127, ez_127, (Or.inl ⟨h_130, ⟨f3_133, hq_137, h⟩⟩)⟩⟩)⟩⟩)⟩⟩)⟩)⟩)⟩))) ?_
                  refine fun nn_142 => Nat.strongRecOn nn_142 (fun nn_142 ih_144 => ?_)
                  intro uf_139 u_140 hm_143 hv_141 KH_2
                  refine k_iload_n X dX11_house_205 0 rfl ?_
                  refine k_bipush (v := 44) X dX11_house_206 (by decide) ?_
                  refine k_ic_ge 224 X dX11_house_208 (by decide) (fun h_145 => ?_) (fun h_145 => ?_)
                  · skip
                    have j_146 : 44 ≤ u_140.toInt := iv_le h_145
                    have iv_147 : IV u_140 44 255 := iv_leR (iv_le h_145) (show IV 44 44 44 from (by decide)) hv_141 (by decide)
                    refine k_iconst (v := 0) X dX11_house_224 (by decide) ?_
                    refine k_istore_n [(2, .int 0), (0, .ref h0), (1, .int p0)] X dX11_house_225 (by decide) rfl ?_
                    refine (fun hL : ∀ (nn_151 : Nat) (uf_148 : Nat → Int32) (u_149 : Int32), (2147483647 - u_149.toInt).toNat = nn_151 → (IV u_149 0 8) → (∀ (m_at2 : Int32) (m_end2 : Int32) (m_failed2 : Int32) (m_fault2 : Int32) (d_fresh2 : Nat → Int32) (m_hasHouse2 : Int32) (m_images2 : Int32) (d_letters2 : Nat → Int32) (m_nameSize2 : Int32) (m_place2 : Int32) (d_r2 : Nat → Int32) (m_size2 : Int32) (d_st2 : Nat → Int32) (m_taped2 : Int32) (m_thrown2 : Int32) (m_token2 : Int32) (m_trouble2 : Int32) (m_undos2 : Int32) (m_whole2 : Int32) (r : Int32), (∃ n_3 : Nat, R_m_houseX_L3 f3_133 (fun (uf_148 : Nat → Int32) => ∃ n_4 : Nat, R_m_houseX_L4 f3_133 (fun (uf_159 : Nat → Int32) => ∃ n_5 : Nat, R_m_houseX_L5 f3_133 (fun (uf_170 : Nat → Int32) => ∃ n_6 : Nat, R_m_houseX_L6 f3_133 (fun (uf_181 : Nat → Int32) (z_187 : Int32) => m_at2 = u_69 ∧ m_end2 = u_70 ∧ m_failed2 = u_67 ∧ m_fault2 = u_76 ∧ d_fresh2 = uf_62 ∧ m_hasHouse2 = 1 ∧ m_images2 = 0 ∧ d_letters2 = uf_65 ∧ m_nameSize2 = u_74 ∧ m_place2 = u_66 ∧ d_r2 = f3_133 ∧ m_size2 = p0 ∧ d_st2 = uf_181 ∧ m_taped2 = 0 ∧ m_thrown2 = m_thrown2_1 ∧ m_token2 = u_72 ∧ m_trouble2 = m_trouble2_2 ∧ m_undos2 = 0 ∧ m_whole2 = u_73 ∧ r = z_187) n_6 uf_170 0) n_5 uf_159 0) n_4 uf_148 0) n_3 uf_148 u_149) → R_m_houseX p0 m_taped m_size m_at m_end m_token m_whole m_nameSize m_fault m_place m_failed m_hasHouse m_undos m_images d_tape d_letters d_r d_fresh d_st m_at2 m_end2 m_failed2 m_fault2 d_fresh2 m_hasHouse2 m_images2 d_letters2 m_nameSize2 m_place2 d_r2 m_size2 d_st2 m_taped2 m_thrown2 m_token2 m_trouble2 m_undos2 m_whole2 r) → Wk p l e _ s m args below meth c _ A g _ _ _ [(cAI g a_st 44 uf_148), (cO11_i1r1i10r1i2r5i2r12i3r4i2 h0 m_thrown2_1 a_tape 0 p0 u_69 u_70 u_72 u_73 u_74 u_76 u_66 m_trouble2_2 a_letters u_67 m_hasHouse a_r a_fresh a_st a_undone a_kept m_undos m_images a_from a_begin a_motor a_change a_startFrame a_changeFrame a_lostAt a_blackAt a_slips a_leftArc a_died a_arcs m_bestSum m_nearest m_nearestTown a_there a_backAt a_sorted a_parts m_seed1 m_darkNow), (cAI g a_tape 900 d_tape), (cAI g a_letters 8 uf_65), (cAI g a_fresh 311 uf_62), (cAI g a_r 311 f3_133)] [(2, .int u_149), (0, .ref h0), (1, .int p0)] 226 [] => hL _ uf_139 0 rfl (iv_w (show IV 0 0 0 from (by decide)) (by decide) (by decide)) (fun m_at2 m_end2 m_failed2 m_fault2 d_fresh2 m_hasHouse2 m_images2 d_letters2 m_nameSize2 m_place2 d_r2 m_size2 d_st2 m_taped2 m_thrown2 m_token2 m_trouble2 m_undos2 m_whole2 r h => (KH_2 _ _ _ _ _ _ _ _ _ _ _ _ _ _ _ _ _ _ _ _ ⟨0 + 1, (Or.inl ⟨h_145, h⟩)⟩))) ?_
                    refine fun nn_151 => Nat.strongRecOn nn_151 (fun nn_151 ih_153 => ?_)
                    intro uf_148 u_149 hm_152 hv_150 KH_3
                    refine k_iload_n X dX11_house_226 0 rfl ?_
                    refine k_aload_n X dX11_house_227 1 rfl ?_
                    refine k_get (ci := 11) X inlX11 rfl 15 (by decide) dX11_house_228 mw170 1 rfl rfl ?_
                    refine k_bipush (v := 6) X dX11_house_231 (by decide) ?_
                    refine k_iald X dX11_house_233 5 rfl (by unfold vp_in; decide) ?_
                    refine k_nm (fun z_154 ez_154 => ?_)
                    have i_155 : z_154.toInt = (f3_133 6).toInt := by rw [ez_154]; rfl
                    have iv_156 : IV z_154 0 8 := rb_6 ez_154 hq_135
                    refine k_ic_ge 284 X dX11_house_234 (by decide) (fun h_157 => ?_) (fun h_157 => ?_)
                    · skip
                      have j_158 : z_154.toInt ≤ u_149.toInt := iv_le h_157
                      refine k_iconst (v := 0) X dX11_house_284 (by decide) ?_
                      refine k_istore_n [(2, .int 0), (0, .ref h0), (1, .int p0)] X dX11_house_285 (by decide) rfl ?_
                      refine (fun hL : ∀ (nn_162 : Nat) (uf_159 : Nat → Int32) (u_160 : Int32), (2147483647 - u_160.toInt).toNat = nn_162 → (IV u_160 0 255) → (∀ (m_at2 : Int32) (m_end2 : Int32) (m_failed2 : Int32) (m_fault2 : Int32) (d_fresh2 : Nat → Int32) (m_hasHouse2 : Int32) (m_images2 : Int32) (d_letters2 : Nat → Int32) (m_nameSize2 : Int32) (m_place2 : Int32) (d_r2 : Nat → Int32) (m_size2 : Int32) (d_st2 : Nat → Int32) (m_taped2 : Int32) (m_thrown2 : Int32) (m_token2 : Int32) (m_trouble2 : Int32) (m_undos2 : Int32) (m_whole2 : Int32) (r : Int32), (∃ n_4 : Nat, R_m_houseX_L4 f3_133 (fun (uf_159 : Nat → Int32) => ∃ n_5 : Nat, R_m_houseX_L5 f3_133 (fun (uf_170 : Nat → Int32) => ∃ n_6 : Nat, R_m_houseX_L6 f3_133 (fun (uf_181 : Nat → Int32) (z_187 : Int32) => m_at2 = u_69 ∧ m_end2 = u_70 ∧ m_failed2 = u_67 ∧ m_fault2 = u_76 ∧ d_fresh2 = uf_62 ∧ m_hasHouse2 = 1 ∧ m_images2 = 0 ∧ d_letters2 = uf_65 ∧ m_nameSize2 = u_74 ∧ m_place2 = u_66 ∧ d_r2 = f3_133 ∧ m_size2 = p0 ∧ d_st2 = uf_181 ∧ m_taped2 = 0 ∧ m_thrown2 = m_thrown2_1 ∧ m_token2 = u_72 ∧ m_trouble2 = m_trouble2_2 ∧ m_undos2 = 0 ∧ m_whole2 = u_73 ∧ r = z_187) n_6 uf_170 0) n_5 uf_159 0) n_4 uf_159 u_160) → R_m_houseX p0 m_taped m_size m_at m_end m_token m_whole m_nameSize m_fault m_place m_failed m_hasHouse m_undos m_images d_tape d_letters d_r d_fresh d_st m_at2 m_end2 m_failed2 m_fault2 d_fresh2 m_hasHouse2 m_images2 d_letters2 m_nameSize2 m_place2 d_r2 m_size2 d_st2 m_taped2 m_thrown2 m_token2 m_trouble2 m_undos2 m_whole2 r) → Wk p l e _ s m args below meth c _ A g _ _ _ [(cAI g a_st 44 uf_159), (cO11_i1r1i10r1i2r5i2r12i3r4i2 h0 m_thrown2_1 a_tape 0 p0 u_69 u_70 u_72 u_73 u_74 u_76 u_66 m_trouble2_2 a_letters u_67 m_hasHouse a_r a_fresh a_st a_undone a_kept m_undos m_images a_from a_begin a_motor a_change a_startFrame a_changeFrame a_lostAt a_blackAt a_slips a_leftArc a_died a_arcs m_bestSum m_nearest m_nearestTown a_there a_backAt a_sorted a_parts m_seed1 m_darkNow), (cAI g a_tape 900 d_tape), (cAI g a_letters 8 uf_65), (cAI g a_fresh 311 uf_62), (cAI g a_r 311 f3_133)] [(2, .int u_160), (0, .ref h0), (1, .int p0)] 286 [] => hL _ uf_148 0 rfl (iv_w (show IV 0 0 0 from (by decide)) (by decide) (by decide)) (fun m_at2 m_end2 m_failed2 m_fault2 d_fresh2 m_hasHouse2 m_images2 d_letters2 m_nameSize2 m_place2 d_r2 m_size2 d_st2 m_taped2 m_thrown2 m_token2 m_trouble2 m_undos2 m_whole2 r h => (KH_3 _ _ _ _ _ _ _ _ _ _ _ _ _ _ _ _ _ _ _ _ ⟨0 + 1, ⟨z_154, ez_154, (Or.inl ⟨h_157, h⟩)⟩⟩))) ?_
                      refine fun nn_162 => Nat.strongRecOn nn_162 (fun nn_162 ih_164 => ?_)
                      intro uf_159 u_160 hm_163 hv_161 KH_4
                      refine k_iload_n X dX11_house_286 0 rfl ?_
                      refine k_aload_n X dX11_house_287 1 rfl ?_
                      refine k_get (ci := 11) X inlX11 rfl 15 (by decide) dX11_house_288 mw170 1 rfl rfl ?_
                      refine k_bipush (v := 8) X dX11_house_291 (by decide) ?_
                      refine k_iald X dX11_house_293 5 rfl (by unfold vp_in; decide) ?_
                      refine k_nm (fun z_165 ez_165 => ?_)
                      have i_166 : z_165.toInt = (f3_133 8).toInt := by rw [ez_165]; rfl
                      have iv_167 : IV z_165 0 12 := rb_8 ez_165 hq_135
                      refine k_ic_ge 325 X dX11_house_294 (by decide) (fun h_168 => ?_) (fun h_168 => ?_)
                      · skip
                        have j_169 : z_165.toInt ≤ u_160.toInt := iv_le h_168
                        refine k_iconst (v := 0) X dX11_house_325 (by decide) ?_
                        refine k_istore_n [(2, .int 0), (0, .ref h0), (1, .int p0)] X dX11_house_326 (by decide) rfl ?_
                        refine (fun hL : ∀ (nn_173 : Nat) (uf_170 : Nat → Int32) (u_171 : Int32), (2147483647 - u_171.toInt).toNat = nn_173 → (IV u_171 0 8) → (∀ (m_at2 : Int32) (m_end2 : Int32) (m_failed2 : Int32) (m_fault2 : Int32) (d_fresh2 : Nat → Int32) (m_hasHouse2 : Int32) (m_images2 : Int32) (d_letters2 : Nat → Int32) (m_nameSize2 : Int32) (m_place2 : Int32) (d_r2 : Nat → Int32) (m_size2 : Int32) (d_st2 : Nat → Int32) (m_taped2 : Int32) (m_thrown2 : Int32) (m_token2 : Int32) (m_trouble2 : Int32) (m_undos2 : Int32) (m_whole2 : Int32) (r : Int32), (∃ n_5 : Nat, R_m_houseX_L5 f3_133 (fun (uf_170 : Nat → Int32) => ∃ n_6 : Nat, R_m_houseX_L6 f3_133 (fun (uf_181 : Nat → Int32) (z_187 : Int32) => m_at2 = u_69 ∧ m_end2 = u_70 ∧ m_failed2 = u_67 ∧ m_fault2 = u_76 ∧ d_fresh2 = uf_62 ∧ m_hasHouse2 = 1 ∧ m_images2 = 0 ∧ d_letters2 = uf_65 ∧ m_nameSize2 = u_74 ∧ m_place2 = u_66 ∧ d_r2 = f3_133 ∧ m_size2 = p0 ∧ d_st2 = uf_181 ∧ m_taped2 = 0 ∧ m_thrown2 = m_thrown2_1 ∧ m_token2 = u_72 ∧ m_trouble2 = m_trouble2_2 ∧ m_undos2 = 0 ∧ m_whole2 = u_73 ∧ r = z_187) n_6 uf_170 0) n_5 uf_170 u_171) → R_m_houseX p0 m_taped m_size m_at m_end m_token m_whole m_nameSize m_fault m_place m_failed m_hasHouse m_undos m_images d_tape d_letters d_r d_fresh d_st m_at2 m_end2 m_failed2 m_fault2 d_fresh2 m_hasHouse2 m_images2 d_letters2 m_nameSize2 m_place2 d_r2 m_size2 d_st2 m_taped2 m_thrown2 m_token2 m_trouble2 m_undos2 m_whole2 r) → Wk p l e _ s m args below meth c _ A g _ _ _ [(cAI g a_st 44 uf_170), (cO11_i1r1i10r1i2r5i2r12i3r4i2 h0 m_thrown2_1 a_tape 0 p0 u_69 u_70 u_72 u_73 u_74 u_76 u_66 m_trouble2_2 a_letters u_67 m_hasHouse a_r a_fresh a_st a_undone a_kept m_undos m_images a_from a_begin a_motor a_change a_startFrame a_changeFrame a_lostAt a_blackAt a_slips a_leftArc a_died a_arcs m_bestSum m_nearest m_nearestTown a_there a_backAt a_sorted a_parts m_seed1 m_darkNow), (cAI g a_tape 900 d_tape), (cAI g a_letters 8 uf_65), (cAI g a_fresh 311 uf_62), (cAI g a_r 311 f3_133)] [(2, .int u_171), (0, .ref h0), (1, .int p0)] 327 [] => hL _ uf_159 0 rfl (iv_w (show IV 0 0 0 from (by decide)) (by decide) (by decide)) (fun m_at2 m_end2 m_failed2 m_fault2 d_fresh2 m_hasHouse2 m_images2 d_letters2 m_nameSize2 m_place2 d_r2 m_size2 d_st2 m_taped2 m_thrown2 m_token2 m_trouble2 m_undos2 m_whole2 r h => (KH_4 _ _ _ _ _ _ _ _ _ _ _ _ _ _ _ _ _ _ _ _ ⟨0 + 1, ⟨z_165, ez_165, (Or.inl ⟨h_168, h⟩)⟩⟩))) ?_
                        refine fun nn_173 => Nat.strongRecOn nn_173 (fun nn_173 ih_175 => ?_)
                        intro uf_170 u_171 hm_174 hv_172 KH_5
                        refine k_iload_n X dX11_house_327 0 rfl ?_
                        refine k_aload_n X dX11_house_328 1 rfl ?_
                        refine k_get (ci := 11) X inlX11 rfl 15 (by decide) dX11_house_329 mw170 1 rfl rfl ?_
                        refine k_bipush (v := 10) X dX11_house_332 (by decide) ?_
                        refine k_iald X dX11_house_334 5 rfl (by unfold vp_in; decide) ?_
                        refine k_nm (fun z_176 ez_176 => ?_)
                        have i_177 : z_176.toInt = (f3_133 10).toInt := by rw [ez_176]; rfl
                        have iv_178 : IV z_176 0 6 := rb_10 ez_176 hq_135
                        refine k_ic_ge 366 X dX11_house_335 (by decide) (fun h_179 => ?_) (fun h_179 => ?_)
                        · skip
                          have j_180 : z_176.toInt ≤ u_171.toInt := iv_le h_179
                          refine k_iconst (v := 0) X dX11_house_366 (by decide) ?_
                          refine k_istore_n [(2, .int 0), (0, .ref h0), (1, .int p0)] X dX11_house_367 (by decide) rfl ?_
                          refine (fun hL : ∀ (nn_184 : Nat) (uf_181 : Nat → Int32) (u_182 : Int32), (2147483647 - u_182.toInt).toNat = nn_184 → (IV u_182 0 8) → (∀ (m_at2 : Int32) (m_end2 : Int32) (m_failed2 : Int32) (m_fault2 : Int32) (d_fresh2 : Nat → Int32) (m_hasHouse2 : Int32) (m_images2 : Int32) (d_letters2 : Nat → Int32) (m_nameSize2 : Int32) (m_place2 : Int32) (d_r2 : Nat → Int32) (m_size2 : Int32) (d_st2 : Nat → Int32) (m_taped2 : Int32) (m_thrown2 : Int32) (m_token2 : Int32) (m_trouble2 : Int32) (m_undos2 : Int32) (m_whole2 : Int32) (r : Int32), (∃ n_6 : Nat, R_m_houseX_L6 f3_133 (fun (uf_181 : Nat → Int32) (z_187 : Int32) => m_at2 = u_69 ∧ m_end2 = u_70 ∧ m_failed2 = u_67 ∧ m_fault2 = u_76 ∧ d_fresh2 = uf_62 ∧ m_hasHouse2 = 1 ∧ m_images2 = 0 ∧ d_letters2 = uf_65 ∧ m_nameSize2 = u_74 ∧ m_place2 = u_66 ∧ d_r2 = f3_133 ∧ m_size2 = p0 ∧ d_st2 = uf_181 ∧ m_taped2 = 0 ∧ m_thrown2 = m_thrown2_1 ∧ m_token2 = u_72 ∧ m_trouble2 = m_trouble2_2 ∧ m_undos2 = 0 ∧ m_whole2 = u_73 ∧ r = z_187) n_6 uf_181 u_182) → R_m_houseX p0 m_taped m_size m_at m_end m_token m_whole m_nameSize m_fault m_place m_failed m_hasHouse m_undos m_images d_tape d_letters d_r d_fresh d_st m_at2 m_end2 m_failed2 m_fault2 d_fresh2 m_hasHouse2 m_images2 d_letters2 m_nameSize2 m_place2 d_r2 m_size2 d_st2 m_taped2 m_thrown2 m_token2 m_trouble2 m_undos2 m_whole2 r) → Wk p l e _ s m args below meth c _ A g _ _ _ [(cAI g a_st 44 uf_181), (cO11_i1r1i10r1i2r5i2r12i3r4i2 h0 m_thrown2_1 a_tape 0 p0 u_69 u_70 u_72 u_73 u_74 u_76 u_66 m_trouble2_2 a_letters u_67 m_hasHouse a_r a_fresh a_st a_undone a_kept m_undos m_images a_from a_begin a_motor a_change a_startFrame a_changeFrame a_lostAt a_blackAt a_slips a_leftArc a_died a_arcs m_bestSum m_nearest m_nearestTown a_there a_backAt a_sorted a_parts m_seed1 m_darkNow), (cAI g a_tape 900 d_tape), (cAI g a_letters 8 uf_65), (cAI g a_fresh 311 uf_62), (cAI g a_r 311 f3_133)] [(2, .int u_182), (0, .ref h0), (1, .int p0)] 368 [] => hL _ uf_170 0 rfl (iv_w (show IV 0 0 0 from (by decide)) (by decide) (by decide)) (fun m_at2 m_end2 m_failed2 m_fault2 d_fresh2 m_hasHouse2 m_images2 d_letters2 m_nameSize2 m_place2 d_r2 m_size2 d_st2 m_taped2 m_thrown2 m_token2 m_trouble2 m_undos2 m_whole2 r h => (KH_5 _ _ _ _ _ _ _ _ _ _ _ _ _ _ _ _ _ _ _ _ ⟨0 + 1, ⟨z_176, ez_176, (Or.inl ⟨h_179, h⟩)⟩⟩))) ?_
                          refine fun nn_184 => Nat.strongRecOn nn_184 (fun nn_184 ih_186 => ?_)
                          intro uf_181 u_182 hm_185 hv_183 KH_6
                          refine k_iload_n X dX11_house_368 0 rfl ?_
                          refine k_aload_n X dX11_house_369 1 rfl ?_
                          refine k_get (ci := 11) X inlX11 rfl 15 (by decide) dX11_house_370 mw170 1 rfl rfl ?_
                          refine k_bipush (v := 12) X dX11_house_373 (by decide) ?_
                          refine k_iald X dX11_house_375 5 rfl (by unfold vp_in; decide) ?_
                          refine k_nm (fun z_187 ez_187 => ?_)
                          have i_188 : z_187.toInt = (f3_133 12).toInt := by rw [ez_187]; rfl
                          have iv_189 : IV z_187 0 8 := rb_12 ez_187 hq_135
                          refine k_ic_ge 400 X dX11_house_376 (by decide) (fun h_190 => ?_) (fun h_190 => ?_)
                          · skip
                            have j_191 : z_187.toInt ≤ u_182.toInt := iv_le h_190
                            refine k_aload_n X dX11_house_400 1 rfl ?_
                            refine k_iconst (v := 1) X dX11_house_401 (by decide) ?_
                            refine k_put (ci := 11) [(cAI g a_st 44 uf_181), (cO11_i1r1i10r1i2r5i2r12i3r4i2 h0 m_thrown2_1 a_tape 0 p0 u_69 u_70 u_72 u_73 u_74 u_76 u_66 m_trouble2_2 a_letters u_67 1 a_r a_fresh a_st a_undone a_kept m_undos m_images a_from a_begin a_motor a_change a_startFrame a_changeFrame a_lostAt a_blackAt a_slips a_leftArc a_died a_arcs m_bestSum m_nearest m_nearestTown a_there a_backAt a_sorted a_parts m_seed1 m_darkNow), (cAI g a_tape 900 d_tape), (cAI g a_letters 8 uf_65), (cAI g a_fresh 311 uf_62), (cAI g a_r 311 f3_133)] X inlX11 rfl tyX11_ok nmX11 14 (by decide) rfl dX11_house_402 mw474 1 rfl (by decide) (by decide) (Nat.le_of_ble_eq_true rfl) rfl ?_
                            refine k_aload_n X dX11_house_405 1 rfl ?_
                            refine k_iconst (v := 0) X dX11_house_406 (by decide) ?_
                            refine k_put (ci := 11) [(cAI g a_st 44 uf_181), (cO11_i1r1i10r1i2r5i2r12i3r4i2 h0 m_thrown2_1 a_tape 0 p0 u_69 u_70 u_72 u_73 u_74 u_76 u_66 m_trouble2_2 a_letters u_67 1 a_r a_fresh a_st a_undone a_kept 0 m_images a_from a_begin a_motor a_change a_startFrame a_changeFrame a_lostAt a_blackAt a_slips a_leftArc a_died a_arcs m_bestSum m_nearest m_nearestTown a_there a_backAt a_sorted a_parts m_seed1 m_darkNow), (cAI g a_tape 900 d_tape), (cAI g a_letters 8 uf_65), (cAI g a_fresh 311 uf_62), (cAI g a_r 311 f3_133)] X inlX11 rfl tyX11_ok nmX11 20 (by decide) rfl dX11_house_407 mw475 1 rfl rfl rfl (Nat.le_of_ble_eq_true rfl) rfl ?_
                            refine k_aload_n X dX11_house_410 1 rfl ?_
                            refine k_iconst (v := 0) X dX11_house_411 (by decide) ?_
                            refine k_put (ci := 11) [(cAI g a_st 44 uf_181), (cO11_i1r1i10r1i2r5i2r12i3r4i2 h0 m_thrown2_1 a_tape 0 p0 u_69 u_70 u_72 u_73 u_74 u_76 u_66 m_trouble2_2 a_letters u_67 1 a_r a_fresh a_st a_undone a_kept 0 0 a_from a_begin a_motor a_change a_startFrame a_changeFrame a_lostAt a_blackAt a_slips a_leftArc a_died a_arcs m_bestSum m_nearest m_nearestTown a_there a_backAt a_sorted a_parts m_seed1 m_darkNow), (cAI g a_tape 900 d_tape), (cAI g a_letters 8 uf_65), (cAI g a_fresh 311 uf_62), (cAI g a_r 311 f3_133)] X inlX11 rfl tyX11_ok nmX11 21 (by decide) rfl dX11_house_412 mw476 1 rfl rfl rfl (Nat.le_of_ble_eq_true rfl) rfl ?_
                            refine k_aload_n X dX11_house_415 1 rfl ?_
                            refine k_get (ci := 11) X inlX11 rfl 15 (by decide) dX11_house_416 mw170 1 rfl rfl ?_
                            refine k_bipush (v := 12) X dX11_house_419 (by decide) ?_
                            refine k_iald X dX11_house_421 5 rfl (by unfold vp_in; decide) ?_
                            refine k_to z_187 ez_187.symm ?_
                            exact k_iret X hr dX11_house_422 (Nat.le_of_ble_eq_true rfl) (Nat.le_of_ble_eq_true rfl) [1, 2, 3, 5, 4, 0] (by decide) rfl rfl ⟨u_69, u_70, u_67, u_76, uf_62, 1, 0, uf_65, u_74, u_66, f3_133, p0, uf_181, 0, m_thrown2_1, u_72, m_trouble2_2, 0, u_73, (iv_w hv_71 (by decide) (by decide)), (iv_w iv_90 (by decide) (by decide)), (iv_w (show IV 1 1 1 from (by decide)) (by decide) (by decide)), (iv_w (show IV 0 0 0 from (by decide)) (by decide) (by decide)), (iv_w hv_75 (by decide) (by decide)), (iv_w iv_15 (by decide) (by decide)), (iv_w (show IV 0 0 0 from (by decide)) (by decide) (by decide)), (iv_w (show IV 0 0 0 from (by decide)) (by decide) (by decide)), hq_135, hp_63, (by refine ⟨fun q => ?_, fun q => ?_⟩ <;> first | rfl | (exfalso; omega)), hT_138, (KH_6 _ _ _ _ _ _ _ _ _ _ _ _ _ _ _ _ _ _ _ _ ⟨0 + 1, ⟨z_187, ez_187, (Or.inl ⟨h_190, ⟨rfl, rfl, rfl, rfl, rfl, rfl, rfl, rfl, rfl, rfl, rfl, rfl, rfl, rfl, rfl, rfl, rfl, rfl, rfl, rfl⟩⟩)⟩⟩), rfl⟩
                          · skip
                            have j_192 : u_182.toInt < z_187.toInt := iv_nle h_190
                            have iv_193 : IV u_182 0 7 := iv_ltL (iv_nle h_190) hv_183 iv_189 (by decide)
                            have iv_194 : IV z_187 1 8 := iv_ltR (iv_nle h_190) hv_183 iv_189 (by decide)
                            refine k_aload_n X dX11_house_379 1 rfl ?_
                            refine k_get (ci := 11) X inlX11 rfl 17 (by decide) dX11_house_380 mw172 1 rfl rfl ?_
                            refine k_bipush (v := 34) X dX11_house_383 (by decide) ?_
                            refine k_iload_n X dX11_house_385 0 rfl ?_
                            refine k_iadd X dX11_house_386 ?_
                            refine k_nm (fun z_195 ez_195 => ?_)
                            have i_196 : z_195.toInt = 34 + u_182.toInt := in_add ez_195 (show IV 34 34 34 from (by decide)) iv_193 (by decide) (by decide)
                            have iv_197 : IV z_195 34 41 := iz2 i_196 iv_193 (by decide) (by decide)
                            refine k_aload_n X dX11_house_387 1 rfl ?_
                            refine k_get (ci := 11) X inlX11 rfl 15 (by decide) dX11_house_388 mw170 1 rfl rfl ?_
                            refine k_iconst (v := 2) X dX11_house_391 (by decide) ?_
                            refine k_iald X dX11_house_392 5 rfl (by unfold vp_in; decide) ?_
                            refine k_nm (fun z_198 ez_198 => ?_)
                            refine k_iast [(cAI g a_st 44 (upd uf_181 (z_195 : Int32).toNatClampNeg z_198)), (cO11_i1r1i10r1i2r5i2r12i3r4i2 h0 m_thrown2_1 a_tape 0 p0 u_69 u_70 u_72 u_73 u_74 u_76 u_66 m_trouble2_2 a_letters u_67 m_hasHouse a_r a_fresh a_st a_undone a_kept m_undos m_images a_from a_begin a_motor a_change a_startFrame a_changeFrame a_lostAt a_blackAt a_slips a_leftArc a_died a_arcs m_bestSum m_nearest m_nearestTown a_there a_backAt a_sorted a_parts m_seed1 m_darkNow), (cAI g a_tape 900 d_tape), (cAI g a_letters 8 uf_65), (cAI g a_fresh 311 uf_62), (cAI g a_r 311 f3_133)] X dX11_house_393 0 rfl (iv_in iv_197 (by decide) (by decide)) rfl ?_
                            obtain ⟨z_200, ez_200⟩ : ∃ y : Int32, u_182 + Int32.ofInt 1 = y := ⟨_, rfl⟩
                            refine k_iinc z_200 [(2, .int z_200), (0, .ref h0), (1, .int p0)] 0 X dX11_house_394 rfl ez_200 (by decide) rfl ?_
                            have i_201 : z_200.toInt = u_182.toInt + 1 := in_inc ez_200 (by decide) iv_193 (by decide) (by decide)
                            have iv_202 : IV z_200 1 8 := iz1 i_201 iv_193 (by decide) (by decide)
                            refine k_goto 368 X dX11_house_397 (by decide) ?_
                            exact ih_186 _ (by omega) ((upd uf_181 (z_195 : Int32).toNatClampNeg z_198)) z_200 rfl (iv_w iv_202 (by decide) (by decide)) (fun m_at2 m_end2 m_failed2 m_fault2 d_fresh2 m_hasHouse2 m_images2 d_letters2 m_nameSize2 m_place2 d_r2 m_size2 d_st2 m_taped2 m_thrown2 m_token2 m_trouble2 m_undos2 m_whole2 r h => h.elim (fun n_6 q => (KH_6 _ _ _ _ _ _ _ _ _ _ _ _ _ _ _ _ _ _ _ _ ⟨n_6 + 1, ⟨z_187, ez_187, (Or.inr ⟨h_190, ⟨z_195, ez_195, ⟨z_198, ez_198, ⟨z_200, ez_200, q⟩⟩⟩⟩)⟩⟩)))
                        · skip
                          have j_203 : u_171.toInt < z_176.toInt := iv_nle h_179
                          have iv_204 : IV u_171 0 5 := iv_ltL (iv_nle h_179) hv_172 iv_178 (by decide)
                          have iv_205 : IV z_176 1 6 := iv_ltR (iv_nle h_179) hv_172 iv_178 (by decide)
                          refine k_aload_n X dX11_house_338 1 rfl ?_
                          refine k_get (ci := 11) X inlX11 rfl 17 (by decide) dX11_house_339 mw172 1 rfl rfl ?_
                          refine k_bipush (v := 28) X dX11_house_342 (by decide) ?_
                          refine k_iload_n X dX11_house_344 0 rfl ?_
                          refine k_iadd X dX11_house_345 ?_
                          refine k_nm (fun z_206 ez_206 => ?_)
                          have i_207 : z_206.toInt = 28 + u_171.toInt := in_add ez_206 (show IV 28 28 28 from (by decide)) iv_204 (by decide) (by decide)
                          have iv_208 : IV z_206 28 33 := iz2 i_207 iv_204 (by decide) (by decide)
                          refine k_aload_n X dX11_house_346 1 rfl ?_
                          refine k_get (ci := 11) X inlX11 rfl 15 (by decide) dX11_house_347 mw170 1 rfl rfl ?_
                          refine k_bipush (v := 96) X dX11_house_350 (by decide) ?_
                          refine k_iconst (v := 3) X dX11_house_352 (by decide) ?_
                          refine k_iload_n X dX11_house_353 0 rfl ?_
                          refine k_imul X dX11_house_354 ?_
                          refine k_nm (fun z_209 ez_209 => ?_)
                          have i_210 : z_209.toInt = 3 * u_171.toInt := in_mul ez_209 (by decide) (by decide) iv_204 (by decide) (by decide)
                          have iv_211 : IV z_209 0 15 := iz4 i_210 iv_204 (by decide) (by decide) (by decide)
                          refine k_iadd X dX11_house_355 ?_
                          refine k_nm (fun z_212 ez_212 => ?_)
                          have i_213 : z_212.toInt = 96 + z_209.toInt := in_add ez_212 (show IV 96 96 96 from (by decide)) iv_211 (by decide) (by decide)
                          have iv_214 : IV z_212 96 111 := iz2 i_213 iv_211 (by decide) (by decide)
                          refine k_iconst (v := 1) X dX11_house_356 (by decide) ?_
                          refine k_iadd X dX11_house_357 ?_
                          refine k_nm (fun z_215 ez_215 => ?_)
                          have i_216 : z_215.toInt = z_212.toInt + 1 := in_add ez_215 iv_214 (show IV 1 1 1 from (by decide)) (by decide) (by decide)
                          have iv_217 : IV z_215 97 112 := iz1 i_216 iv_214 (by decide) (by decide)
                          refine k_iald X dX11_house_358 5 rfl (iv_in iv_217 (by decide) (by decide)) ?_
                          refine k_nm (fun z_218 ez_218 => ?_)
                          refine k_iast [(cAI g a_st 44 (upd uf_170 (z_206 : Int32).toNatClampNeg z_218)), (cO11_i1r1i10r1i2r5i2r12i3r4i2 h0 m_thrown2_1 a_tape 0 p0 u_69 u_70 u_72 u_73 u_74 u_76 u_66 m_trouble2_2 a_letters u_67 m_hasHouse a_r a_fresh a_st a_undone a_kept m_undos m_images a_from a_begin a_motor a_change a_startFrame a_changeFrame a_lostAt a_blackAt a_slips a_leftArc a_died a_arcs m_bestSum m_nearest m_nearestTown a_there a_backAt a_sorted a_parts m_seed1 m_darkNow), (cAI g a_tape 900 d_tape), (cAI g a_letters 8 uf_65), (cAI g a_fresh 311 uf_62), (cAI g a_r 311 f3_133)] X dX11_house_359 0 rfl (iv_in iv_208 (by decide) (by decide)) rfl ?_
                          obtain ⟨z_220, ez_220⟩ : ∃ y : Int32, u_171 + Int32.ofInt 1 = y := ⟨_, rfl⟩
                          refine k_iinc z_220 [(2, .int z_220), (0, .ref h0), (1, .int p0)] 0 X dX11_house_360 rfl ez_220 (by decide) rfl ?_
                          have i_221 : z_220.toInt = u_171.toInt + 1 := in_inc ez_220 (by decide) iv_204 (by decide) (by decide)
                          have iv_222 : IV z_220 1 6 := iz1 i_221 iv_204 (by decide) (by decide)
                          refine k_goto 327 X dX11_house_363 (by decide) ?_
                          exact ih_175 _ (by omega) ((upd uf_170 (z_206 : Int32).toNatClampNeg z_218)) z_220 rfl (iv_w iv_222 (by decide) (by decide)) (fun m_at2 m_end2 m_failed2 m_fault2 d_fresh2 m_hasHouse2 m_images2 d_letters2 m_nameSize2 m_place2 d_r2 m_size2 d_st2 m_taped2 m_thrown2 m_token2 m_trouble2 m_undos2 m_whole2 r h => h.elim (fun n_5 q => (KH_5 _ _ _ _ _ _ _ _ _ _ _ _ _ _ _ _ _ _ _ _ ⟨n_5 + 1, ⟨z_176, ez_176, (Or.inr ⟨h_179, ⟨z_206, ez_206, ⟨z_209, ez_209, ⟨z_212, ez_212, ⟨z_215, ez_215, ⟨z_218, ez_218, ⟨z_220, ez_220, q⟩⟩⟩⟩⟩⟩⟩)⟩⟩)))
                      · skip
                        have j_223 : u_160.toInt < z_165.toInt := iv_nle h_168
                        have iv_224 : IV u_160 0 11 := iv_ltL (iv_nle h_168) hv_161 iv_167 (by decide)
                        have iv_225 : IV z_165 1 12 := iv_ltR (iv_nle h_168) hv_161 iv_167 (by decide)
                        refine k_aload_n X dX11_house_297 1 rfl ?_
                        refine k_get (ci := 11) X inlX11 rfl 17 (by decide) dX11_house_298 mw172 1 rfl rfl ?_
                        refine k_bipush (v := 16) X dX11_house_301 (by decide) ?_
                        refine k_iload_n X dX11_house_303 0 rfl ?_
                        refine k_iadd X dX11_house_304 ?_
                        refine k_nm (fun z_226 ez_226 => ?_)
                        have i_227 : z_226.toInt = 16 + u_160.toInt := in_add ez_226 (show IV 16 16 16 from (by decide)) iv_224 (by decide) (by decide)
                        have iv_228 : IV z_226 16 27 := iz2 i_227 iv_224 (by decide) (by decide)
                        refine k_aload_n X dX11_house_305 1 rfl ?_
                        refine k_get (ci := 11) X inlX11 rfl 15 (by decide) dX11_house_306 mw170 1 rfl rfl ?_
                        refine k_bipush (v := 44) X dX11_house_309 (by decide) ?_
                        refine k_iconst (v := 3) X dX11_house_311 (by decide) ?_
                        refine k_iload_n X dX11_house_312 0 rfl ?_
                        refine k_imul X dX11_house_313 ?_
                        refine k_nm (fun z_229 ez_229 => ?_)
                        have i_230 : z_229.toInt = 3 * u_160.toInt := in_mul ez_229 (by decide) (by decide) iv_224 (by decide) (by decide)
                        have iv_231 : IV z_229 0 33 := iz4 i_230 iv_224 (by decide) (by decide) (by decide)
                        refine k_iadd X dX11_house_314 ?_
                        refine k_nm (fun z_232 ez_232 => ?_)
                        have i_233 : z_232.toInt = 44 + z_229.toInt := in_add ez_232 (show IV 44 44 44 from (by decide)) iv_231 (by decide) (by decide)
                        have iv_234 : IV z_232 44 77 := iz2 i_233 iv_231 (by decide) (by decide)
                        refine k_iconst (v := 1) X dX11_house_315 (by decide) ?_
                        refine k_iadd X dX11_house_316 ?_
                        refine k_nm (fun z_235 ez_235 => ?_)
                        have i_236 : z_235.toInt = z_232.toInt + 1 := in_add ez_235 iv_234 (show IV 1 1 1 from (by decide)) (by decide) (by decide)
                        have iv_237 : IV z_235 45 78 := iz1 i_236 iv_234 (by decide) (by decide)
                        refine k_iald X dX11_house_317 5 rfl (iv_in iv_237 (by decide) (by decide)) ?_
                        refine k_nm (fun z_238 ez_238 => ?_)
                        refine k_iast [(cAI g a_st 44 (upd uf_159 (z_226 : Int32).toNatClampNeg z_238)), (cO11_i1r1i10r1i2r5i2r12i3r4i2 h0 m_thrown2_1 a_tape 0 p0 u_69 u_70 u_72 u_73 u_74 u_76 u_66 m_trouble2_2 a_letters u_67 m_hasHouse a_r a_fresh a_st a_undone a_kept m_undos m_images a_from a_begin a_motor a_change a_startFrame a_changeFrame a_lostAt a_blackAt a_slips a_leftArc a_died a_arcs m_bestSum m_nearest m_nearestTown a_there a_backAt a_sorted a_parts m_seed1 m_darkNow), (cAI g a_tape 900 d_tape), (cAI g a_letters 8 uf_65), (cAI g a_fresh 311 uf_62), (cAI g a_r 311 f3_133)] X dX11_house_318 0 rfl (iv_in iv_228 (by decide) (by decide)) rfl ?_
                        obtain ⟨z_240, ez_240⟩ : ∃ y : Int32, u_160 + Int32.ofInt 1 = y := ⟨_, rfl⟩
                        refine k_iinc z_240 [(2, .int z_240), (0, .ref h0), (1, .int p0)] 0 X dX11_house_319 rfl ez_240 (by decide) rfl ?_
                        have i_241 : z_240.toInt = u_160.toInt + 1 := in_inc ez_240 (by decide) iv_224 (by decide) (by decide)
                        have iv_242 : IV z_240 1 12 := iz1 i_241 iv_224 (by decide) (by decide)
                        refine k_goto 286 X dX11_house_322 (by decide) ?_
                        exact ih_164 _ (by omega) ((upd uf_159 (z_226 : Int32).toNatClampNeg z_238)) z_240 rfl (iv_w iv_242 (by decide) (by decide)) (fun m_at2 m_end2 m_failed2 m_fault2 d_fresh2 m_hasHouse2 m_images2 d_letters2 m_nameSize2 m_place2 d_r2 m_size2 d_st2 m_taped2 m_thrown2 m_token2 m_trouble2 m_undos2 m_whole2 r h => h.elim (fun n_4 q => (KH_4 _ _ _ _ _ _ _ _ _ _ _ _ _ _ _ _ _ _ _ _ ⟨n_4 + 1, ⟨z_165, ez_165, (Or.inr ⟨h_168, ⟨z_226, ez_226, ⟨z_229, ez_229, ⟨z_232, ez_232, ⟨z_235, ez_235, ⟨z_238, ez_238, ⟨z_240, ez_240, q⟩⟩⟩⟩⟩⟩⟩)⟩⟩)))
                    · skip
                      have j_243 : u_149.toInt < z_154.toInt := iv_nle h_157
                      have iv_244 : IV u_149 0 7 := iv_ltL (iv_nle h_157) hv_150 iv_156 (by decide)
                      have iv_245 : IV z_154 1 8 := iv_ltR (iv_nle h_157) hv_150 iv_156 (by decide)
                      refine k_aload_n X dX11_house_237 1 rfl ?_
                      refine k_get (ci := 11) X inlX11 rfl 17 (by decide) dX11_house_238 mw172 1 rfl rfl ?_
                      refine k_iconst (v := 0) X dX11_house_241 (by decide) ?_
                      refine k_iload_n X dX11_house_242 0 rfl ?_
                      refine k_iadd X dX11_house_243 ?_
                      refine k_nm (fun z_246 ez_246 => ?_)
                      have i_247 : z_246.toInt = 0 + u_149.toInt := in_add ez_246 (show IV 0 0 0 from (by decide)) iv_244 (by decide) (by decide)
                      have iv_248 : IV z_246 0 7 := iz2 i_247 iv_244 (by decide) (by decide)
                      refine k_aload_n X dX11_house_244 1 rfl ?_
                      refine k_get (ci := 11) X inlX11 rfl 15 (by decide) dX11_house_245 mw170 1 rfl rfl ?_
                      refine k_bipush (v := 16) X dX11_house_248 (by decide) ?_
                      refine k_iconst (v := 3) X dX11_house_250 (by decide) ?_
                      refine k_iload_n X dX11_house_251 0 rfl ?_
                      refine k_imul X dX11_house_252 ?_
                      refine k_nm (fun z_249 ez_249 => ?_)
                      have i_250 : z_249.toInt = 3 * u_149.toInt := in_mul ez_249 (by decide) (by decide) iv_244 (by decide) (by decide)
                      have iv_251 : IV z_249 0 21 := iz4 i_250 iv_244 (by decide) (by decide) (by decide)
                      refine k_iadd X dX11_house_253 ?_
                      refine k_nm (fun z_252 ez_252 => ?_)
                      have i_253 : z_252.toInt = 16 + z_249.toInt := in_add ez_252 (show IV 16 16 16 from (by decide)) iv_251 (by decide) (by decide)
                      have iv_254 : IV z_252 16 37 := iz2 i_253 iv_251 (by decide) (by decide)
                      refine k_iald X dX11_house_254 5 rfl (iv_in iv_254 (by decide) (by decide)) ?_
                      refine k_nm (fun z_255 ez_255 => ?_)
                      refine k_iast [(cAI g a_st 44 (upd uf_148 (z_246 : Int32).toNatClampNeg z_255)), (cO11_i1r1i10r1i2r5i2r12i3r4i2 h0 m_thrown2_1 a_tape 0 p0 u_69 u_70 u_72 u_73 u_74 u_76 u_66 m_trouble2_2 a_letters u_67 m_hasHouse a_r a_fresh a_st a_undone a_kept m_undos m_images a_from a_begin a_motor a_change a_startFrame a_changeFrame a_lostAt a_blackAt a_slips a_leftArc a_died a_arcs m_bestSum m_nearest m_nearestTown a_there a_backAt a_sorted a_parts m_seed1 m_darkNow), (cAI g a_tape 900 d_tape), (cAI g a_letters 8 uf_65), (cAI g a_fresh 311 uf_62), (cAI g a_r 311 f3_133)] X dX11_house_255 0 rfl (iv_in iv_248 (by decide) (by decide)) rfl ?_
                      refine k_aload_n X dX11_house_256 1 rfl ?_
                      refine k_get (ci := 11) X inlX11 rfl 17 (by decide) dX11_house_257 mw172 1 rfl rfl ?_
                      refine k_bipush (v := 8) X dX11_house_260 (by decide) ?_
                      refine k_iload_n X dX11_house_262 0 rfl ?_
                      refine k_iadd X dX11_house_263 ?_
                      refine k_nm (fun z_257 ez_257 => ?_)
                      have i_258 : z_257.toInt = 8 + u_149.toInt := in_add ez_257 (show IV 8 8 8 from (by decide)) iv_244 (by decide) (by decide)
                      have iv_259 : IV z_257 8 15 := iz2 i_258 iv_244 (by decide) (by decide)
                      refine k_aload_n X dX11_house_264 1 rfl ?_
                      refine k_get (ci := 11) X inlX11 rfl 15 (by decide) dX11_house_265 mw170 1 rfl rfl ?_
                      refine k_bipush (v := 16) X dX11_house_268 (by decide) ?_
                      refine k_iconst (v := 3) X dX11_house_270 (by decide) ?_
                      refine k_iload_n X dX11_house_271 0 rfl ?_
                      refine k_imul X dX11_house_272 ?_
                      refine k_to z_249 ez_249.symm ?_
                      refine k_iadd X dX11_house_273 ?_
                      refine k_to z_252 ez_252.symm ?_
                      refine k_iconst (v := 1) X dX11_house_274 (by decide) ?_
                      refine k_iadd X dX11_house_275 ?_
                      refine k_nm (fun z_260 ez_260 => ?_)
                      have i_261 : z_260.toInt = z_252.toInt + 1 := in_add ez_260 iv_254 (show IV 1 1 1 from (by decide)) (by decide) (by decide)
                      have iv_262 : IV z_260 17 38 := iz1 i_261 iv_254 (by decide) (by decide)
                      refine k_iald X dX11_house_276 5 rfl (iv_in iv_262 (by decide) (by decide)) ?_
                      refine k_nm (fun z_263 ez_263 => ?_)
                      refine k_iast [(cAI g a_st 44 (upd (upd uf_148 (z_246 : Int32).toNatClampNeg z_255) (z_257 : Int32).toNatClampNeg z_263)), (cO11_i1r1i10r1i2r5i2r12i3r4i2 h0 m_thrown2_1 a_tape 0 p0 u_69 u_70 u_72 u_73 u_74 u_76 u_66 m_trouble2_2 a_letters u_67 m_hasHouse a_r a_fresh a_st a_undone a_kept m_undos m_images a_from a_begin a_motor a_change a_startFrame a_changeFrame a_lostAt a_blackAt a_slips a_leftArc a_died a_arcs m_bestSum m_nearest m_nearestTown a_there a_backAt a_sorted a_parts m_seed1 m_darkNow), (cAI g a_tape 900 d_tape), (cAI g a_letters 8 uf_65), (cAI g a_fresh 311 uf_62), (cAI g a_r 311 f3_133)] X dX11_house_277 0 rfl (iv_in iv_259 (by decide) (by decide)) rfl ?_
                      obtain ⟨z_265, ez_265⟩ : ∃ y : Int32, u_149 + Int32.ofInt 1 = y := ⟨_, rfl⟩
                      refine k_iinc z_265 [(2, .int z_265), (0, .ref h0), (1, .int p0)] 0 X dX11_house_278 rfl ez_265 (by decide) rfl ?_
                      have i_266 : z_265.toInt = u_149.toInt + 1 := in_inc ez_265 (by decide) iv_244 (by decide) (by decide)
                      have iv_267 : IV z_265 1 8 := iz1 i_266 iv_244 (by decide) (by decide)
                      refine k_goto 226 X dX11_house_281 (by decide) ?_
                      exact ih_153 _ (by omega) ((upd (upd uf_148 (z_246 : Int32).toNatClampNeg z_255) (z_257 : Int32).toNatClampNeg z_263)) z_265 rfl (iv_w iv_267 (by decide) (by decide)) (fun m_at2 m_end2 m_failed2 m_fault2 d_fresh2 m_hasHouse2 m_images2 d_letters2 m_nameSize2 m_place2 d_r2 m_size2 d_st2 m_taped2 m_thrown2 m_token2 m_trouble2 m_undos2 m_whole2 r h => h.elim (fun n_3 q => (KH_3 _ _ _ _ _ _ _ _ _ _ _ _ _ _ _ _ _ _ _ _ ⟨n_3 + 1, ⟨z_154, ez_154, (Or.inr ⟨h_157, ⟨z_246, ez_246, ⟨z_249, ez_249, ⟨z_252, ez_252, ⟨z_255, ez_255, ⟨z_257, ez_257, ⟨z_260, ez_260, ⟨z_263, ez_263, ⟨z_265, ez_265, q⟩⟩⟩⟩⟩⟩⟩⟩⟩)⟩⟩)))
                  · skip
                    have j_268 : u_140.toInt < 44 := iv_nle h_145
                    have iv_269 : IV u_140 0 43 := iv_ltL (iv_nle h_145) hv_141 (show IV 44 44 44 from (by decide)) (by decide)
                    refine k_aload_n X dX11_house_211 1 rfl ?_
                    refine k_get (ci := 11) X inlX11 rfl 17 (by decide) dX11_house_212 mw172 1 rfl rfl ?_
                    refine k_iload_n X dX11_house_215 0 rfl ?_
                    refine k_iconst (v := 0) X dX11_house_216 (by decide) ?_
                    refine k_iast [(cAI g a_st 44 (upd uf_139 (u_140 : Int32).toNatClampNeg 0)), (cO11_i1r1i10r1i2r5i2r12i3r4i2 h0 m_thrown2_1 a_tape 0 p0 u_69 u_70 u_72 u_73 u_74 u_76 u_66 m_trouble2_2 a_letters u_67 m_hasHouse a_r a_fresh a_st a_undone a_kept m_undos m_images a_from a_begin a_motor a_change a_startFrame a_changeFrame a_lostAt a_blackAt a_slips a_leftArc a_died a_arcs m_bestSum m_nearest m_nearestTown a_there a_backAt a_sorted a_parts m_seed1 m_darkNow), (cAI g a_tape 900 d_tape), (cAI g a_letters 8 uf_65), (cAI g a_fresh 311 uf_62), (cAI g a_r 311 f3_133)] X dX11_house_217 0 rfl (iv_in iv_269 (by decide) (by decide)) rfl ?_
                    obtain ⟨z_271, ez_271⟩ : ∃ y : Int32, u_140 + Int32.ofInt 1 = y := ⟨_, rfl⟩
                    refine k_iinc z_271 [(2, .int z_271), (0, .ref h0), (1, .int p0)] 0 X dX11_house_218 rfl ez_271 (by decide) rfl ?_
                    have i_272 : z_271.toInt = u_140.toInt + 1 := in_inc ez_271 (by decide) iv_269 (by decide) (by decide)
                    have iv_273 : IV z_271 1 44 := iz1 i_272 iv_269 (by decide) (by decide)
                    refine k_goto 205 X dX11_house_221 (by decide) ?_
                    exact ih_144 _ (by omega) ((upd uf_139 (u_140 : Int32).toNatClampNeg 0)) z_271 rfl (iv_w iv_273 (by decide) (by decide)) (fun m_at2 m_end2 m_failed2 m_fault2 d_fresh2 m_hasHouse2 m_images2 d_letters2 m_nameSize2 m_place2 d_r2 m_size2 d_st2 m_taped2 m_thrown2 m_token2 m_trouble2 m_undos2 m_whole2 r h => h.elim (fun n_2 q => (KH_2 _ _ _ _ _ _ _ _ _ _ _ _ _ _ _ _ _ _ _ _ ⟨n_2 + 1, (Or.inr ⟨h_145, ⟨z_271, ez_271, q⟩⟩)⟩)))
                · skip
                  have iv_274 : IV z_127 0 0 := iv_meet iv_129 (iv_e h_130 (show IV 0 0 0 from (by decide))) (by decide) (by decide)
                  refine k_aload_n X dX11_house_164 1 rfl ?_
                  refine k_bipush (v := 6) X dX11_house_165 (by decide) ?_
                  refine k_aload_n X dX11_house_167 1 rfl ?_
                  refine k_get (ci := 11) X inlX11 rfl 4 (by decide) dX11_house_168 mw473 2 rfl rfl ?_
                  refine k_callVV (n := 2) (As := [.int 6, .int u_69]) (st := []) X [(cO11_i1r1i10r1i2r5i2r12i3r4i2 h0 m_thrown2_1 a_tape 0 p0 u_69 u_70 u_72 u_73 u_74 u_76 u_66 m_trouble2_2 a_letters u_67 m_hasHouse a_r a_fresh a_st a_undone a_kept m_undos m_images a_from a_begin a_motor a_change a_startFrame a_changeFrame a_lostAt a_blackAt a_slips a_leftArc a_died a_arcs m_bestSum m_nearest m_nearestTown a_there a_backAt a_sorted a_parts m_seed1 m_darkNow)] [(cAI g a_r 311 d_r), (cAI g a_st 44 d_st), (cAI g a_tape 900 d_tape), (cAI g a_letters 8 uf_65), (cAI g a_fresh 311 uf_62)] [2] [0, 1, 3, 4, 5] (m_badX l g h0 6 u_69 m_thrown2_1 a_tape 0 p0 u_69 u_70 u_72 u_73 u_74 u_76 u_66 m_trouble2_2 a_letters u_67 m_hasHouse a_r a_fresh a_st a_undone a_kept m_undos m_images a_from a_begin a_motor a_change a_startFrame a_changeFrame a_lostAt a_blackAt a_slips a_leftArc a_died a_arcs m_bestSum m_nearest m_nearestTown a_there a_backAt a_sorted a_parts m_seed1 m_darkNow (iv_w iv_90 (by decide) (by decide))) dX11_house_171 mw519 mw520 mw521 mw5 mw522 rfl 11 rfl rfl 0 _ rfl yk_yX11_bad_2 rfl (Nat.le_of_ble_eq_true rfl) (Nat.le_of_ble_eq_true rfl) (Nat.le_of_ble_eq_true rfl) (Nat.le_of_ble_eq_true rfl) (Nat.le_of_ble_eq_true rfl) rfl rfl (by decide) rfl (by decide) (by decide) ?_
                  rintro w ⟨m_failed2_275, m_fault2_276, m_place2_277, iv_279, hq_280, rfl⟩
                  refine k_ws [(cAI g a_r 311 d_r), (cAI g a_st 44 d_st), (cAI g a_tape 900 d_tape), (cAI g a_letters 8 uf_65), (cAI g a_fresh 311 uf_62), (cO11_i1r1i10r1i2r5i2r12i3r4i2 h0 m_thrown2_1 a_tape 0 p0 u_69 u_70 u_72 u_73 u_74 m_fault2_276 m_place2_277 m_trouble2_2 a_letters m_failed2_275 m_hasHouse a_r a_fresh a_st a_undone a_kept m_undos m_images a_from a_begin a_motor a_change a_startFrame a_changeFrame a_lostAt a_blackAt a_slips a_leftArc a_died a_arcs m_bestSum m_nearest m_nearestTown a_there a_backAt a_sorted a_parts m_seed1 m_darkNow)] rfl ?_
                  refine k_aload_n X dX11_house_174 1 rfl ?_
                  refine k_get (ci := 11) X inlX11 rfl 13 (by decide) dX11_house_175 mw469 5 rfl rfl ?_
                  refine k_if_eq 187 X dX11_house_178 (by decide) (fun h_281 => (iv_eqN h_281 iv_279 (show IV 0 0 0 from (by decide)) (by decide)).elim) (fun h_281 => ?_)
                  refine k_aload_n X dX11_house_181 1 rfl ?_
                  refine k_iconst (v := 4) X dX11_house_182 (by decide) ?_
                  refine k_callVI (n := 1) (As := [.int 4]) (st := []) X [(cO11_i1r1i10r1i2r5i2r12i3r4i2 h0 m_thrown2_1 a_tape 0 p0 u_69 u_70 u_72 u_73 u_74 m_fault2_276 m_place2_277 m_trouble2_2 a_letters m_failed2_275 m_hasHouse a_r a_fresh a_st a_undone a_kept m_undos m_images a_from a_begin a_motor a_change a_startFrame a_changeFrame a_lostAt a_blackAt a_slips a_leftArc a_died a_arcs m_bestSum m_nearest m_nearestTown a_there a_backAt a_sorted a_parts m_seed1 m_darkNow)] [(cAI g a_r 311 d_r), (cAI g a_st 44 d_st), (cAI g a_tape 900 d_tape), (cAI g a_letters 8 uf_65), (cAI g a_fresh 311 uf_62)] [5] [0, 1, 2, 3, 4] (m_noX l g h0 4 m_thrown2_1 a_tape 0 p0 u_69 u_70 u_72 u_73 u_74 m_fault2_276 m_place2_277 m_trouble2_2 a_letters m_failed2_275 m_hasHouse a_r a_fresh a_st a_undone a_kept m_undos m_images a_from a_begin a_motor a_change a_startFrame a_changeFrame a_lostAt a_blackAt a_slips a_leftArc a_died a_arcs m_bestSum m_nearest m_nearestTown a_there a_backAt a_sorted a_parts m_seed1 m_darkNow) dX11_house_183 mw485 mw486 mw487 mw5 mw488 rfl 11 rfl rfl 0 _ rfl yk_yX11_no_1 rfl (Nat.le_of_ble_eq_true rfl) (Nat.le_of_ble_eq_true rfl) (Nat.le_of_ble_eq_true rfl) (Nat.le_of_ble_eq_true rfl) (Nat.le_of_ble_eq_true rfl) rfl rfl (by decide) rfl (by decide) (by decide) ?_
                  rintro r_283 w ⟨m_trouble2_282, iv_284, hq_285, rfl⟩
                  refine k_ws [(cAI g a_r 311 d_r), (cAI g a_st 44 d_st), (cAI g a_tape 900 d_tape), (cAI g a_letters 8 uf_65), (cAI g a_fresh 311 uf_62), (cO11_i1r1i10r1i2r5i2r12i3r4i2 h0 m_thrown2_1 a_tape 0 p0 u_69 u_70 u_72 u_73 u_74 m_fault2_276 m_place2_277 m_trouble2_282 a_letters m_failed2_275 m_hasHouse a_r a_fresh a_st a_undone a_kept m_undos m_images a_from a_begin a_motor a_change a_startFrame a_changeFrame a_lostAt a_blackAt a_slips a_leftArc a_died a_arcs m_bestSum m_nearest m_nearestTown a_there a_backAt a_sorted a_parts m_seed1 m_darkNow)] rfl ?_
                  exact k_iret X hr dX11_house_186 (Nat.le_of_ble_eq_true rfl) (Nat.le_of_ble_eq_true rfl) [5, 2, 3, 0, 4, 1] (by decide) rfl rfl ⟨u_69, u_70, m_failed2_275, m_fault2_276, uf_62, m_hasHouse, m_images, uf_65, u_74, m_place2_277, d_r, p0, d_st, 0, m_thrown2_1, u_72, m_trouble2_282, m_undos, u_73, (iv_w hv_71 (by decide) (by decide)), (iv_w iv_279 (by decide) (by decide)), (iv_w hv_m_hasHouse (by decide) (by decide)), (iv_w hv_m_images (by decide) (by decide)), (iv_w hv_75 (by decide) (by decide)), (iv_w iv_15 (by decide) (by decide)), (iv_w (show IV 0 0 0 from (by decide)) (by decide) (by decide)), (iv_w hv_m_undos (by decide) (by decide)), hp_d_r, hp_63, (by refine ⟨fun q => ?_, fun q => ?_⟩ <;> first | rfl | (exfalso; omega)), hr_0, (KH_1 _ _ _ _ _ _ _ _ _ _ _ _ _ _ _ _ _ _ _ _ ⟨0 + 1, (Or.inr ⟨h_81, (Or.inl ⟨h_91, (Or.inl ⟨h_93, ⟨z_96, ez_96, (Or.inr ⟨h_97, ⟨z_110, ez_110, (Or.inr ⟨h_113, ⟨z_127, ez_127, (Or.inr ⟨h_130, ⟨m_failed2_275, m_fault2_276, m_place2_277, hq_280, ⟨m_trouble2_282, r_283, hq_285, ⟨rfl, rfl, rfl, rfl, rfl, rfl, rfl, rfl, rfl, rfl, rfl, rfl, rfl, rfl, rfl, rfl, rfl, rfl, rfl, rfl⟩⟩⟩⟩)⟩⟩)⟩⟩)⟩⟩)⟩)⟩)⟩), rfl⟩
          · skip
            refine k_aload_n X dX11_house_118 1 rfl ?_
            refine k_iconst (v := 1) X dX11_house_119 (by decide) ?_
            refine k_aload_n X dX11_house_120 1 rfl ?_
            refine k_get (ci := 11) X inlX11 rfl 4 (by decide) dX11_house_121 mw473 2 rfl rfl ?_
            refine k_callVV (n := 2) (As := [.int 1, .int u_69]) (st := []) X [(cO11_i1r1i10r1i2r5i2r12i3r4i2 h0 m_thrown2_1 a_tape 0 p0 u_69 u_70 u_72 u_73 u_74 u_76 u_66 m_trouble2_2 a_letters u_67 m_hasHouse a_r a_fresh a_st a_undone a_kept m_undos m_images a_from a_begin a_motor a_change a_startFrame a_changeFrame a_lostAt a_blackAt a_slips a_leftArc a_died a_arcs m_bestSum m_nearest m_nearestTown a_there a_backAt a_sorted a_parts m_seed1 m_darkNow)] [(cAI g a_r 311 d_r), (cAI g a_st 44 d_st), (cAI g a_tape 900 d_tape), (cAI g a_letters 8 uf_65), (cAI g a_fresh 311 uf_62)] [2] [0, 1, 3, 4, 5] (m_badX l g h0 1 u_69 m_thrown2_1 a_tape 0 p0 u_69 u_70 u_72 u_73 u_74 u_76 u_66 m_trouble2_2 a_letters u_67 m_hasHouse a_r a_fresh a_st a_undone a_kept m_undos m_images a_from a_begin a_motor a_change a_startFrame a_changeFrame a_lostAt a_blackAt a_slips a_leftArc a_died a_arcs m_bestSum m_nearest m_nearestTown a_there a_backAt a_sorted a_parts m_seed1 m_darkNow (iv_w iv_90 (by decide) (by decide))) dX11_house_124 mw519 mw520 mw521 mw5 mw522 rfl 11 rfl rfl 0 _ rfl yk_yX11_bad_2 rfl (Nat.le_of_ble_eq_true rfl) (Nat.le_of_ble_eq_true rfl) (Nat.le_of_ble_eq_true rfl) (Nat.le_of_ble_eq_true rfl) (Nat.le_of_ble_eq_true rfl) rfl rfl (by decide) rfl (by decide) (by decide) ?_
            rintro w ⟨m_failed2_286, m_fault2_287, m_place2_288, iv_290, hq_291, rfl⟩
            refine k_ws [(cAI g a_r 311 d_r), (cAI g a_st 44 d_st), (cAI g a_tape 900 d_tape), (cAI g a_letters 8 uf_65), (cAI g a_fresh 311 uf_62), (cO11_i1r1i10r1i2r5i2r12i3r4i2 h0 m_thrown2_1 a_tape 0 p0 u_69 u_70 u_72 u_73 u_74 m_fault2_287 m_place2_288 m_trouble2_2 a_letters m_failed2_286 m_hasHouse a_r a_fresh a_st a_undone a_kept m_undos m_images a_from a_begin a_motor a_change a_startFrame a_changeFrame a_lostAt a_blackAt a_slips a_leftArc a_died a_arcs m_bestSum m_nearest m_nearestTown a_there a_backAt a_sorted a_parts m_seed1 m_darkNow)] rfl ?_
            refine k_aload_n X dX11_house_127 1 rfl ?_
            refine k_get (ci := 11) X inlX11 rfl 13 (by decide) dX11_house_128 mw469 5 rfl rfl ?_
            refine k_if_ne 174 X dX11_house_131 (by decide) (fun h_292 => ?_) (fun h_292 => (iv_eqN h_292 iv_290 (show IV 0 0 0 from (by decide)) (by decide)).elim)
            refine k_aload_n X dX11_house_174 1 rfl ?_
            refine k_get (ci := 11) X inlX11 rfl 13 (by decide) dX11_house_175 mw469 5 rfl rfl ?_
            refine k_if_eq 187 X dX11_house_178 (by decide) (fun h_293 => (iv_eqN h_293 iv_290 (show IV 0 0 0 from (by decide)) (by decide)).elim) (fun h_293 => ?_)
            refine k_aload_n X dX11_house_181 1 rfl ?_
            refine k_iconst (v := 4) X dX11_house_182 (by decide) ?_
            refine k_callVI (n := 1) (As := [.int 4]) (st := []) X [(cO11_i1r1i10r1i2r5i2r12i3r4i2 h0 m_thrown2_1 a_tape 0 p0 u_69 u_70 u_72 u_73 u_74 m_fault2_287 m_place2_288 m_trouble2_2 a_letters m_failed2_286 m_hasHouse a_r a_fresh a_st a_undone a_kept m_undos m_images a_from a_begin a_motor a_change a_startFrame a_changeFrame a_lostAt a_blackAt a_slips a_leftArc a_died a_arcs m_bestSum m_nearest m_nearestTown a_there a_backAt a_sorted a_parts m_seed1 m_darkNow)] [(cAI g a_r 311 d_r), (cAI g a_st 44 d_st), (cAI g a_tape 900 d_tape), (cAI g a_letters 8 uf_65), (cAI g a_fresh 311 uf_62)] [5] [0, 1, 2, 3, 4] (m_noX l g h0 4 m_thrown2_1 a_tape 0 p0 u_69 u_70 u_72 u_73 u_74 m_fault2_287 m_place2_288 m_trouble2_2 a_letters m_failed2_286 m_hasHouse a_r a_fresh a_st a_undone a_kept m_undos m_images a_from a_begin a_motor a_change a_startFrame a_changeFrame a_lostAt a_blackAt a_slips a_leftArc a_died a_arcs m_bestSum m_nearest m_nearestTown a_there a_backAt a_sorted a_parts m_seed1 m_darkNow) dX11_house_183 mw485 mw486 mw487 mw5 mw488 rfl 11 rfl rfl 0 _ rfl yk_yX11_no_1 rfl (Nat.le_of_ble_eq_true rfl) (Nat.le_of_ble_eq_true rfl) (Nat.le_of_ble_eq_true rfl) (Nat.le_of_ble_eq_true rfl) (Nat.le_of_ble_eq_true rfl) rfl rfl (by decide) rfl (by decide) (by decide) ?_
            rintro r_295 w ⟨m_trouble2_294, iv_296, hq_297, rfl⟩
            refine k_ws [(cAI g a_r 311 d_r), (cAI g a_st 44 d_st), (cAI g a_tape 900 d_tape), (cAI g a_letters 8 uf_65), (cAI g a_fresh 311 uf_62), (cO11_i1r1i10r1i2r5i2r12i3r4i2 h0 m_thrown2_1 a_tape 0 p0 u_69 u_70 u_72 u_73 u_74 m_fault2_287 m_place2_288 m_trouble2_294 a_letters m_failed2_286 m_hasHouse a_r a_fresh a_st a_undone a_kept m_undos m_images a_from a_begin a_motor a_change a_startFrame a_changeFrame a_lostAt a_blackAt a_slips a_leftArc a_died a_arcs m_bestSum m_nearest m_nearestTown a_there a_backAt a_sorted a_parts m_seed1 m_darkNow)] rfl ?_
            exact k_iret X hr dX11_house_186 (Nat.le_of_ble_eq_true rfl) (Nat.le_of_ble_eq_true rfl) [5, 2, 3, 0, 4, 1] (by decide) rfl rfl ⟨u_69, u_70, m_failed2_286, m_fault2_287, uf_62, m_hasHouse, m_images, uf_65, u_74, m_place2_288, d_r, p0, d_st, 0, m_thrown2_1, u_72, m_trouble2_294, m_undos, u_73, (iv_w hv_71 (by decide) (by decide)), (iv_w iv_290 (by decide) (by decide)), (iv_w hv_m_hasHouse (by decide) (by decide)), (iv_w hv_m_images (by decide) (by decide)), (iv_w hv_75 (by decide) (by decide)), (iv_w iv_15 (by decide) (by decide)), (iv_w (show IV 0 0 0 from (by decide)) (by decide) (by decide)), (iv_w hv_m_undos (by decide) (by decide)), hp_d_r, hp_63, (by refine ⟨fun q => ?_, fun q => ?_⟩ <;> first | rfl | (exfalso; omega)), hr_0, (KH_1 _ _ _ _ _ _ _ _ _ _ _ _ _ _ _ _ _ _ _ _ ⟨0 + 1, (Or.inr ⟨h_81, (Or.inl ⟨h_91, (Or.inr ⟨h_93, ⟨m_failed2_286, m_fault2_287, m_place2_288, hq_291, ⟨m_trouble2_294, r_295, hq_297, ⟨rfl, rfl, rfl, rfl, rfl, rfl, rfl, rfl, rfl, rfl, rfl, rfl, rfl, rfl, rfl, rfl, rfl, rfl, rfl, rfl⟩⟩⟩⟩)⟩)⟩)⟩), rfl⟩
        · skip
          have iv_298 : IV u_72 59 59 := iv_meet (iv_any u_72) (iv_e h_91 (show IV 59 59 59 from (by decide))) (by decide) (by decide)
          refine k_aload_n X dX11_house_93 1 rfl ?_
          refine k_callVV (n := 0) (As := []) (st := []) X [(cO11_i1r1i10r1i2r5i2r12i3r4i2 h0 m_thrown2_1 a_tape 0 p0 u_69 u_70 u_72 u_73 u_74 u_76 u_66 m_trouble2_2 a_letters u_67 m_hasHouse a_r a_fresh a_st a_undone a_kept m_undos m_images a_from a_begin a_motor a_change a_startFrame a_changeFrame a_lostAt a_blackAt a_slips a_leftArc a_died a_arcs m_bestSum m_nearest m_nearestTown a_there a_backAt a_sorted a_parts m_seed1 m_darkNow), (cAI g a_tape 900 d_tape), (cAI g a_letters 8 uf_65)] [(cAI g a_r 311 d_r), (cAI g a_st 44 d_st), (cAI g a_fresh 311 uf_62)] [2, 3, 4] [0, 1, 5] (m_nextX l g h0 m_thrown2_1 a_tape 0 p0 u_69 u_70 u_72 u_73 u_74 u_76 u_66 m_trouble2_2 a_letters u_67 m_hasHouse a_r a_fresh a_st a_undone a_kept m_undos m_images a_from a_begin a_motor a_change a_startFrame a_changeFrame a_lostAt a_blackAt a_slips a_leftArc a_died a_arcs m_bestSum m_nearest m_nearestTown a_there a_backAt a_sorted a_parts m_seed1 m_darkNow d_tape uf_65 (iv_w iv_15 (by decide) (by decide)) (iv_w hv_71 (by decide) (by decide)) (iv_w hv_75 (by decide) (by decide))) dX11_house_94 mw489 mw490 mw491 mw5 mw492 rfl 11 rfl rfl 0 _ rfl yk_yX11_next_0 rfl (Nat.le_of_ble_eq_true rfl) (Nat.le_of_ble_eq_true rfl) (Nat.le_of_ble_eq_true rfl) (Nat.le_of_ble_eq_true rfl) (Nat.le_of_ble_eq_true rfl) rfl rfl (by decide) rfl (by decide) (by decide) ?_
          intro w zq
          refine exE6 zq ?_
          clear zq
          intro m_at2_299 m_end2_300 d_letters2_301 m_nameSize2_302 m_token2_303 m_whole2_304 iv_306 zq
          refine exA5 zq ?_
          clear zq
          intro iv_307 hq_308 hq_309 hq_310 hk_311 zq
          subst zq
          refine k_ws [(cAI g a_r 311 d_r), (cAI g a_st 44 d_st), (cAI g a_fresh 311 uf_62), (cO11_i1r1i10r1i2r5i2r12i3r4i2 h0 m_thrown2_1 a_tape 0 p0 m_at2_299 m_end2_300 m_token2_303 m_whole2_304 m_nameSize2_302 u_76 u_66 m_trouble2_2 a_letters u_67 m_hasHouse a_r a_fresh a_st a_undone a_kept m_undos m_images a_from a_begin a_motor a_change a_startFrame a_changeFrame a_lostAt a_blackAt a_slips a_leftArc a_died a_arcs m_bestSum m_nearest m_nearestTown a_there a_backAt a_sorted a_parts m_seed1 m_darkNow), (cAI g a_tape 900 d_tape), (cAI g a_letters 8 d_letters2_301)] rfl ?_
          refine k_aload_n X dX11_house_97 1 rfl ?_
          refine k_callVV (n := 0) (As := []) (st := []) X [(cO11_i1r1i10r1i2r5i2r12i3r4i2 h0 m_thrown2_1 a_tape 0 p0 m_at2_299 m_end2_300 m_token2_303 m_whole2_304 m_nameSize2_302 u_76 u_66 m_trouble2_2 a_letters u_67 m_hasHouse a_r a_fresh a_st a_undone a_kept m_undos m_images a_from a_begin a_motor a_change a_startFrame a_changeFrame a_lostAt a_blackAt a_slips a_leftArc a_died a_arcs m_bestSum m_nearest m_nearestTown a_there a_backAt a_sorted a_parts m_seed1 m_darkNow), (cAI g a_tape 900 d_tape), (cAI g a_letters 8 d_letters2_301), (cAI g a_fresh 311 uf_62)] [(cAI g a_r 311 d_r), (cAI g a_st 44 d_st)] [3, 4, 5, 2] [0, 1] (m_readLineX l g h0 m_thrown2_1 a_tape 0 p0 m_at2_299 m_end2_300 m_token2_303 m_whole2_304 m_nameSize2_302 u_76 u_66 m_trouble2_2 a_letters u_67 m_hasHouse a_r a_fresh a_st a_undone a_kept m_undos m_images a_from a_begin a_motor a_change a_startFrame a_changeFrame a_lostAt a_blackAt a_slips a_leftArc a_died a_arcs m_bestSum m_nearest m_nearestTown a_there a_backAt a_sorted a_parts m_seed1 m_darkNow d_tape d_letters2_301 uf_62 (iv_w iv_15 (by decide) (by decide)) (iv_w iv_306 (by decide) (by decide)) (iv_w iv_307 (by decide) (by decide)) (iv_w iv_90 (by decide) (by decide)) hp_63 hT_64 hk_311) dX11_house_98 mw505 mw506 mw507 mw5 mw508 rfl 11 rfl rfl 0 _ rfl yk_yX11_readLine_0 rfl (Nat.le_of_ble_eq_true rfl) (Nat.le_of_ble_eq_true rfl) (Nat.le_of_ble_eq_true rfl) (Nat.le_of_ble_eq_true rfl) (Nat.le_of_ble_eq_true rfl) rfl rfl (by decide) rfl (by decide) (by decide) ?_
          intro w zq
          refine exE10 zq ?_
          clear zq
          intro m_at2_312 m_end2_313 m_failed2_314 m_fault2_315 d_fresh2_316 d_letters2_317 m_nameSize2_318 m_place2_319 m_token2_320 m_whole2_321 iv_323 zq
          refine exA8 zq ?_
          clear zq
          intro iv_324 iv_325 hp_326 hq_327 hq_328 hq_329 hq_330 hk_331 zq
          subst zq
          refine k_ws [(cAI g a_r 311 d_r), (cAI g a_st 44 d_st), (cO11_i1r1i10r1i2r5i2r12i3r4i2 h0 m_thrown2_1 a_tape 0 p0 m_at2_312 m_end2_313 m_token2_320 m_whole2_321 m_nameSize2_318 m_fault2_315 m_place2_319 m_trouble2_2 a_letters m_failed2_314 m_hasHouse a_r a_fresh a_st a_undone a_kept m_undos m_images a_from a_begin a_motor a_change a_startFrame a_changeFrame a_lostAt a_blackAt a_slips a_leftArc a_died a_arcs m_bestSum m_nearest m_nearestTown a_there a_backAt a_sorted a_parts m_seed1 m_darkNow), (cAI g a_tape 900 d_tape), (cAI g a_letters 8 d_letters2_317), (cAI g a_fresh 311 d_fresh2_316)] rfl ?_
          refine k_goto 77 X dX11_house_101 (by decide) ?_
          exact ih_80 _ (by omega) d_fresh2_316 d_letters2_317 m_place2_319 m_failed2_314 m_at2_312 m_end2_313 m_token2_320 m_whole2_321 m_nameSize2_318 m_fault2_315 rfl hp_326 hq_329 (iv_w iv_324 (by decide) (by decide)) (iv_w iv_323 (by decide) (by decide)) (iv_w iv_325 (by decide) (by decide)) hk_331 (fun m_at2 m_end2 m_failed2 m_fault2 d_fresh2 m_hasHouse2 m_images2 d_letters2 m_nameSize2 m_place2 d_r2 m_size2 d_st2 m_taped2 m_thrown2 m_token2 m_trouble2 m_undos2 m_whole2 r h => h.elim (fun n_1 q => (KH_1 _ _ _ _ _ _ _ _ _ _ _ _ _ _ _ _ _ _ _ _ ⟨n_1 + 1, (Or.inr ⟨h_81, (Or.inr ⟨h_91, ⟨m_at2_299, m_end2_300, d_letters2_301, m_nameSize2_302, m_token2_303, m_whole2_304, hq_310, ⟨m_at2_312, m_end2_313, m_failed2_314, m_fault2_315, d_fresh2_316, d_letters2_317, m_nameSize2_318, m_place2_319, m_token2_320, m_whole2_321, hq_330, q⟩⟩⟩)⟩)⟩)))
    · skip
      have j_332 : u_19.toInt < 311 := iv_nle h_25
      have iv_333 : IV u_19 0 310 := iv_ltL (iv_nle h_25) hv_20 (show IV 311 311 311 from (by decide)) (by decide)
      refine k_aload_n X dX11_house_46 1 rfl ?_
      refine k_get (ci := 11) X inlX11 rfl 16 (by decide) dX11_house_47 mw171 5 rfl rfl ?_
      refine k_iload_n X dX11_house_50 0 rfl ?_
      refine k_iconst (v := 0) X dX11_house_51 (by decide) ?_
      refine k_iast [(cAI g a_tape 900 d_tape), (cAI g a_letters 8 d_letters), (cAI g a_r 311 d_r), (cAI g a_fresh 311 (upd uf_17 (u_19 : Int32).toNatClampNeg 0)), (cAI g a_st 44 d_st), (cO11_i1r1i10r1i2r5i2r12i3r4i2 h0 m_thrown2_1 a_tape 0 m_size m_at m_end m_token m_whole m_nameSize 0 m_place m_trouble2_2 a_letters 0 m_hasHouse a_r a_fresh a_st a_undone a_kept m_undos m_images a_from a_begin a_motor a_change a_startFrame a_changeFrame a_lostAt a_blackAt a_slips a_leftArc a_died a_arcs m_bestSum m_nearest m_nearestTown a_there a_backAt a_sorted a_parts m_seed1 m_darkNow)] X dX11_house_52 3 rfl (iv_in iv_333 (by decide) (by decide)) rfl ?_
      refine (fun hg : ∀ fa_334 : Nat → Int32, fa_334 = upd uf_17 (u_19 : Int32).toNatClampNeg 0 → RInv fa_334 → Wk p l e _ s m args below meth c _ A g _ _ _ [(cAI g a_tape 900 d_tape), (cAI g a_letters 8 d_letters), (cAI g a_r 311 d_r), (cAI g a_fresh 311 fa_334), (cAI g a_st 44 d_st), (cO11_i1r1i10r1i2r5i2r12i3r4i2 h0 m_thrown2_1 a_tape 0 m_size m_at m_end m_token m_whole m_nameSize 0 m_place m_trouble2_2 a_letters 0 m_hasHouse a_r a_fresh a_st a_undone a_kept m_undos m_images a_from a_begin a_motor a_change a_startFrame a_changeFrame a_lostAt a_blackAt a_slips a_leftArc a_died a_arcs m_bestSum m_nearest m_nearestTown a_there a_backAt a_sorted a_parts m_seed1 m_darkNow)] _ _ _ => hg _ rfl (w_zero hp_18)) (fun fa_334 eq_337 hR_335 => ?_)
      obtain ⟨z_338, ez_338⟩ : ∃ y : Int32, u_19 + Int32.ofInt 1 = y := ⟨_, rfl⟩
      refine k_iinc z_338 [(2, .int z_338), (0, .ref h0), (1, .int p0)] 0 X dX11_house_53 rfl ez_338 (by decide) rfl ?_
      have i_339 : z_338.toInt = u_19.toInt + 1 := in_inc ez_338 (by decide) iv_333 (by decide) (by decide)
      have iv_340 : IV z_338 1 311 := iz1 i_339 iv_333 (by decide) (by decide)
      refine k_goto 39 X dX11_house_56 (by decide) ?_
      exact ih_24 _ (by omega) fa_334 z_338 rfl hR_335 (iv_w iv_340 (by decide) (by decide)) (z_step hx_21 eq_337 (by omega) (by omega)) (fun m_at2 m_end2 m_failed2 m_fault2 d_fresh2 m_hasHouse2 m_images2 d_letters2 m_nameSize2 m_place2 d_r2 m_size2 d_st2 m_taped2 m_thrown2 m_token2 m_trouble2 m_undos2 m_whole2 r h => h.elim (fun n_0 q => (KH_0 _ _ _ _ _ _ _ _ _ _ _ _ _ _ _ _ _ _ _ _ ⟨n_0 + 1, (Or.inr ⟨h_25, ⟨fa_334, eq_337, ⟨z_338, ez_338, q⟩⟩⟩)⟩)))
  · skip
    have iv_341 : IV r_5 0 0 := iv_meet iv_6 (iv_e h_10 (show IV 0 0 0 from (by decide))) (by decide) (by decide)
    have hc_342 := hk_9 (iv_eq iv_341 (show IV 0 0 0 from (by decide)))
    have j_343 : p0.toInt < 0 ∨ m_taped.toInt < p0.toInt := hc_342
    refine k_aload_n X dX11_house_16 0 rfl ?_
    refine k_iconst (v := 2) X dX11_house_17 (by decide) ?_
    refine k_callVI (n := 1) (As := [.int 2]) (st := []) X [(cO11_i1r1i10r1i2r5i2r12i3r4i2 h0 m_thrown2_1 a_tape m_taped m_size m_at m_end m_token m_whole m_nameSize m_fault m_place m_trouble2_2 a_letters m_failed m_hasHouse a_r a_fresh a_st a_undone a_kept m_undos m_images a_from a_begin a_motor a_change a_startFrame a_changeFrame a_lostAt a_blackAt a_slips a_leftArc a_died a_arcs m_bestSum m_nearest m_nearestTown a_there a_backAt a_sorted a_parts m_seed1 m_darkNow)] [(cAI g a_tape 900 d_tape), (cAI g a_letters 8 d_letters), (cAI g a_r 311 d_r), (cAI g a_fresh 311 d_fresh), (cAI g a_st 44 d_st)] [5] [0, 1, 2, 3, 4] (m_noX l g h0 2 m_thrown2_1 a_tape m_taped m_size m_at m_end m_token m_whole m_nameSize m_fault m_place m_trouble2_2 a_letters m_failed m_hasHouse a_r a_fresh a_st a_undone a_kept m_undos m_images a_from a_begin a_motor a_change a_startFrame a_changeFrame a_lostAt a_blackAt a_slips a_leftArc a_died a_arcs m_bestSum m_nearest m_nearestTown a_there a_backAt a_sorted a_parts m_seed1 m_darkNow) dX11_house_18 mw485 mw486 mw487 mw5 mw488 rfl 11 rfl rfl 0 _ rfl yk_yX11_no_1 rfl (Nat.le_of_ble_eq_true rfl) (Nat.le_of_ble_eq_true rfl) (Nat.le_of_ble_eq_true rfl) (Nat.le_of_ble_eq_true rfl) (Nat.le_of_ble_eq_true rfl) rfl rfl (by decide) rfl (by decide) (by decide) ?_
    rintro r_345 w ⟨m_trouble2_344, iv_346, hq_347, rfl⟩
    refine k_ws [(cAI g a_tape 900 d_tape), (cAI g a_letters 8 d_letters), (cAI g a_r 311 d_r), (cAI g a_fresh 311 d_fresh), (cAI g a_st 44 d_st), (cO11_i1r1i10r1i2r5i2r12i3r4i2 h0 m_thrown2_1 a_tape m_taped m_size m_at m_end m_token m_whole m_nameSize m_fault m_place m_trouble2_344 a_letters m_failed m_hasHouse a_r a_fresh a_st a_undone a_kept m_undos m_images a_from a_begin a_motor a_change a_startFrame a_changeFrame a_lostAt a_blackAt a_slips a_leftArc a_died a_arcs m_bestSum m_nearest m_nearestTown a_there a_backAt a_sorted a_parts m_seed1 m_darkNow)] rfl ?_
    exact k_iret X hr dX11_house_21 (Nat.le_of_ble_eq_true rfl) (Nat.le_of_ble_eq_true rfl) [5, 0, 1, 2, 3, 4] (by decide) rfl rfl ⟨m_at, m_end, m_failed, m_fault, d_fresh, m_hasHouse, m_images, d_letters, m_nameSize, m_place, d_r, m_size, d_st, m_taped, m_thrown2_1, m_token, m_trouble2_344, m_undos, m_whole, (iv_w hv_m_end (by decide) (by decide)), (iv_w hv_m_failed (by decide) (by decide)), (iv_w hv_m_hasHouse (by decide) (by decide)), (iv_w hv_m_images (by decide) (by decide)), (iv_w hv_m_nameSize (by decide) (by decide)), (iv_w hv_m_size (by decide) (by decide)), (iv_w hv_m_taped (by decide) (by decide)), (iv_w hv_m_undos (by decide) (by decide)), hp_d_r, hp_d_fresh, (by refine ⟨fun q => ?_, fun q => ?_⟩ <;> first | rfl | (exfalso; omega)), hr_0, ⟨m_thrown2_1, m_trouble2_2, hq_4, ⟨r_5, hq_7, (Or.inr ⟨h_10, ⟨m_trouble2_344, r_345, hq_347, ⟨rfl, rfl, rfl, rfl, rfl, rfl, rfl, rfl, rfl, rfl, rfl, rfl, rfl, rfl, rfl, rfl, rfl, rfl, rfl, rfl⟩⟩⟩)⟩⟩, rfl⟩


set_option maxHeartbeats 4000000 in
set_option maxRecDepth 100000 in
theorem m_feedX (l : Launch) (g : Gx) (h0 : Nat) (p0 : Int32) (p1 : Int32) (p2 : Int32) (p3 : Int32) (p4 : Int32) (m_thrown : Int32) (a_tape : Nat) (m_taped : Int32) (m_size : Int32) (m_at : Int32) (m_end : Int32) (m_token : Int32) (m_whole : Int32) (m_nameSize : Int32) (m_fault : Int32) (m_place : Int32) (m_trouble : Int32) (a_letters : Nat) (m_failed : Int32) (m_hasHouse : Int32) (a_r : Nat) (a_fresh : Nat) (a_st : Nat) (a_undone : Nat) (a_kept : Nat) (m_undos : Int32) (m_images : Int32) (a_from : Nat) (a_begin : Nat) (a_motor : Nat) (a_change : Nat) (a_startFrame : Nat) (a_changeFrame : Nat) (a_lostAt : Nat) (a_blackAt : Nat) (a_slips : Nat) (a_leftArc : Nat) (a_died : Nat) (a_arcs : Nat) (m_bestSum : Int32) (m_nearest : Int32) (m_nearestTown : Int32) (a_there : Nat) (a_backAt : Nat) (a_sorted : Nat) (a_parts : Nat) (m_seed1 : Int32) (m_darkNow : Int32) (d_tape : Nat → Int32) (hv_m_taped : IV m_taped 0 900) : cI l g yX11_feed cX11_feed 8 (some .int) 0 0 0 0 [.ref h0, .int p0, .int p1, .int p2, .int p3, .int p4] [(cO11_i1r1i10r1i2r5i2r12i3r4i2 h0 m_thrown a_tape m_taped m_size m_at m_end m_token m_whole m_nameSize m_fault m_place m_trouble a_letters m_failed m_hasHouse a_r a_fresh a_st a_undone a_kept m_undos m_images a_from a_begin a_motor a_change a_startFrame a_changeFrame a_lostAt a_blackAt a_slips a_leftArc a_died a_arcs m_bestSum m_nearest m_nearestTown a_there a_backAt a_sorted a_parts m_seed1 m_darkNow), (cAI g a_tape 900 d_tape)] (fun r w => ∃ (d_tape2 : Nat → Int32) (m_taped2 : Int32) (m_thrown2 : Int32), IV m_taped2 0 900 ∧ ((900 < m_taped.toInt + 20 → r = -1 ∧ m_taped2 = m_taped) ∧ (m_taped.toInt + 20 ≤ 900 → r = m_taped2 ∧ m_taped2.toInt = m_taped.toInt + 20)) ∧ (R_m_feedX p0 p1 p2 p3 p4 m_taped d_tape d_tape2 m_taped2 m_thrown2 r) ∧ w = [(cO11_i1r1i10r1i2r5i2r12i3r4i2 h0 m_thrown2 a_tape m_taped2 m_size m_at m_end m_token m_whole m_nameSize m_fault m_place m_trouble a_letters m_failed m_hasHouse a_r a_fresh a_st a_undone a_kept m_undos m_images a_from a_begin a_motor a_change a_startFrame a_changeFrame a_lostAt a_blackAt a_slips a_leftArc a_died a_arcs m_bestSum m_nearest m_nearestTown a_there a_backAt a_sorted a_parts m_seed1 m_darkNow), (cAI g a_tape 900 d_tape2)]) := by
  refine cI.of (by decide) (Nat.le_of_ble_eq_true rfl) ?_
  intro p e s m args below meth c A X hr hi
  refine k_lveq [(0, .ref h0), (1, .int p0), (2, .int p1), (3, .int p2), (4, .int p3), (5, .int p4)] rfl ?_
  refine k_aload_n X dX11_feed_0 0 rfl ?_
  refine k_iconst (v := 0) X dX11_feed_1 (by decide) ?_
  refine k_put (ci := 11) [(cO11_i1r1i10r1i2r5i2r12i3r4i2 h0 0 a_tape m_taped m_size m_at m_end m_token m_whole m_nameSize m_fault m_place m_trouble a_letters m_failed m_hasHouse a_r a_fresh a_st a_undone a_kept m_undos m_images a_from a_begin a_motor a_change a_startFrame a_changeFrame a_lostAt a_blackAt a_slips a_leftArc a_died a_arcs m_bestSum m_nearest m_nearestTown a_there a_backAt a_sorted a_parts m_seed1 m_darkNow), (cAI g a_tape 900 d_tape)] X inlX11 rfl tyX11_ok nmX11 0 (by decide) rfl dX11_feed_2 mw204 0 rfl rfl rfl (Nat.le_of_ble_eq_true rfl) rfl ?_
  refine k_aload_n X dX11_feed_5 0 rfl ?_
  refine k_get (ci := 11) X inlX11 rfl 2 (by decide) dX11_feed_6 mw205 0 rfl rfl ?_
  refine k_bipush (v := 20) X dX11_feed_9 (by decide) ?_
  refine k_iadd X dX11_feed_11 ?_
  refine k_nm (fun z_1 ez_1 => ?_)
  have i_2 : z_1.toInt = m_taped.toInt + 20 := in_add ez_1 hv_m_taped (show IV 20 20 20 from (by decide)) (by decide) (by decide)
  have iv_3 : IV z_1 20 920 := iz1 i_2 hv_m_taped (by decide) (by decide)
  refine k_sipush (v := 900) X dX11_feed_12 (by decide) ?_
  refine k_ic_le 20 X dX11_feed_15 (by decide) (fun h_4 => ?_) (fun h_4 => ?_)
  · skip
    have j_5 : z_1.toInt ≤ 900 := iv_le h_4
    have iv_6 : IV z_1 20 900 := iv_leL (iv_le h_4) iv_3 (show IV 900 900 900 from (by decide)) (by decide)
    have iv_7 : IV m_taped 0 880 := by have := hv_m_taped; have := iv_6; rw [IV]; omega
    refine k_iconst (v := 0) X dX11_feed_20 (by decide) ?_
    refine k_istore [(6, .int 0), (0, .ref h0), (1, .int p0), (2, .int p1), (3, .int p2), (4, .int p3), (5, .int p4)] X dX11_feed_21 (by decide) rfl ?_
    refine (fun hL : ∀ (nn_15 : Nat) (uf_8 : Nat → Int32) (u_9 : Int32) (u_11 : Int32), (20 - u_9.toInt).toNat = nn_15 → (IV u_9 0 255) → (IV u_11 0 900) → (u_9.toInt ≤ 20) → (u_11.toInt = m_taped.toInt + u_9.toInt) → (∀ (d_tape2 : Nat → Int32) (m_taped2 : Int32) (m_thrown2 : Int32) (r : Int32), (∃ n_0 : Nat, R_m_feedX_L0 p0 p1 p2 p3 p4 (fun (uf_8 : Nat → Int32) (u_11 : Int32) => d_tape2 = uf_8 ∧ m_taped2 = u_11 ∧ m_thrown2 = 0 ∧ r = u_11) n_0 uf_8 u_9 u_11) → R_m_feedX p0 p1 p2 p3 p4 m_taped d_tape d_tape2 m_taped2 m_thrown2 r) → Wk p l e _ s m args below meth c _ A g _ _ _ [(cO11_i1r1i10r1i2r5i2r12i3r4i2 h0 0 a_tape u_11 m_size m_at m_end m_token m_whole m_nameSize m_fault m_place m_trouble a_letters m_failed m_hasHouse a_r a_fresh a_st a_undone a_kept m_undos m_images a_from a_begin a_motor a_change a_startFrame a_changeFrame a_lostAt a_blackAt a_slips a_leftArc a_died a_arcs m_bestSum m_nearest m_nearestTown a_there a_backAt a_sorted a_parts m_seed1 m_darkNow), (cAI g a_tape 900 uf_8)] [(6, .int u_9), (0, .ref h0), (1, .int p0), (2, .int p1), (3, .int p2), (4, .int p3), (5, .int p4)] 23 [] => hL _ d_tape 0 m_taped rfl (iv_w (show IV 0 0 0 from (by decide)) (by decide) (by decide)) (iv_w iv_7 (by decide) (by decide)) (by decide) (by have e0 : (0 : Int32).toInt = 0 := (by decide); omega) (fun d_tape2 m_taped2 m_thrown2 r h => ⟨z_1, ez_1, (Or.inl ⟨h_4, h⟩)⟩)) ?_
    refine fun nn_15 => Nat.strongRecOn nn_15 (fun nn_15 ih_17 => ?_)
    intro uf_8 u_9 u_11 hm_16 hv_10 hv_12 hx_13 hx_14 KH_0
    refine k_iload X dX11_feed_23 0 rfl ?_
    refine k_bipush (v := 20) X dX11_feed_25 (by decide) ?_
    refine k_ic_ge 120 X dX11_feed_27 (by decide) (fun h_18 => ?_) (fun h_18 => ?_)
    · skip
      have j_19 : 20 ≤ u_9.toInt := iv_le h_18
      have iv_20 : IV u_9 20 255 := iv_leR (iv_le h_18) (show IV 20 20 20 from (by decide)) hv_10 (by decide)
      refine k_aload_n X dX11_feed_120 1 rfl ?_
      refine k_get (ci := 11) X inlX11 rfl 2 (by decide) dX11_feed_121 mw205 0 rfl rfl ?_
      exact k_iret X hr dX11_feed_124 (Nat.le_of_ble_eq_true rfl) (Nat.le_of_ble_eq_true rfl) [0, 1] (by decide) rfl rfl ⟨uf_8, u_11, 0, (iv_w hv_12 (by decide) (by decide)), (by refine ⟨fun q => ?_, fun q => ?_⟩ <;> first | exact ⟨rfl, rfl⟩ | exact ⟨rfl, by omega⟩ | (exfalso; omega)), (KH_0 _ _ _ _ ⟨0 + 1, (Or.inl ⟨h_18, ⟨rfl, rfl, rfl, rfl⟩⟩)⟩), rfl⟩
    · skip
      have j_21 : u_9.toInt < 20 := iv_nle h_18
      have iv_22 : IV u_9 0 19 := iv_ltL (iv_nle h_18) hv_10 (show IV 20 20 20 from (by decide)) (by decide)
      refine k_iload X dX11_feed_30 0 rfl ?_
      refine k_iconst (v := 4) X dX11_feed_32 (by decide) ?_
      refine k_ic_ge 40 X dX11_feed_33 (by decide) (fun h_23 => ?_) (fun h_23 => ?_)
      · skip
        have j_24 : 4 ≤ u_9.toInt := iv_le h_23
        have iv_25 : IV u_9 4 19 := iv_leR (iv_le h_23) (show IV 4 4 4 from (by decide)) iv_22 (by decide)
        refine k_iload X dX11_feed_40 0 rfl ?_
        refine k_bipush (v := 8) X dX11_feed_42 (by decide) ?_
        refine k_ic_ge 51 X dX11_feed_44 (by decide) (fun h_26 => ?_) (fun h_26 => ?_)
        · skip
          have j_27 : 8 ≤ u_9.toInt := iv_le h_26
          have iv_28 : IV u_9 8 19 := iv_leR (iv_le h_26) (show IV 8 8 8 from (by decide)) iv_25 (by decide)
          refine k_iload X dX11_feed_51 0 rfl ?_
          refine k_bipush (v := 12) X dX11_feed_53 (by decide) ?_
          refine k_ic_ge 62 X dX11_feed_55 (by decide) (fun h_29 => ?_) (fun h_29 => ?_)
          · skip
            have j_30 : 12 ≤ u_9.toInt := iv_le h_29
            have iv_31 : IV u_9 12 19 := iv_leR (iv_le h_29) (show IV 12 12 12 from (by decide)) iv_28 (by decide)
            refine k_iload X dX11_feed_62 0 rfl ?_
            refine k_bipush (v := 16) X dX11_feed_64 (by decide) ?_
            refine k_ic_ge 74 X dX11_feed_66 (by decide) (fun h_32 => ?_) (fun h_32 => ?_)
            · skip
              have j_33 : 16 ≤ u_9.toInt := iv_le h_32
              have iv_34 : IV u_9 16 19 := iv_leR (iv_le h_32) (show IV 16 16 16 from (by decide)) iv_31 (by decide)
              refine k_iload X dX11_feed_74 6 rfl ?_
              refine k_istore [(7, .int p4), (6, .int u_9), (0, .ref h0), (1, .int p0), (2, .int p1), (3, .int p2), (4, .int p3), (5, .int p4)] X dX11_feed_76 (by decide) rfl ?_
              have iv_35 : IV u_11 0 899 := by have := hv_12; have := hv_m_taped; rw [IV]; omega
              refine k_aload_n X dX11_feed_78 2 rfl ?_
              refine k_get (ci := 11) X inlX11 rfl 1 (by decide) dX11_feed_79 mw167 0 rfl rfl ?_
              refine k_aload_n X dX11_feed_82 2 rfl ?_
              refine k_get (ci := 11) X inlX11 rfl 2 (by decide) dX11_feed_83 mw205 0 rfl rfl ?_
              refine k_iload X dX11_feed_86 0 rfl ?_
              refine k_bipush (v := 24) X dX11_feed_88 (by decide) ?_
              refine k_bipush (v := 8) X dX11_feed_90 (by decide) ?_
              refine k_iload X dX11_feed_92 1 rfl ?_
              refine k_iconst (v := 4) X dX11_feed_94 (by decide) ?_
              refine k_irem X dX11_feed_95 (by decide) ?_
              refine k_nm (fun z_36 ez_36 => ?_)
              have iv_37 : IV z_36 0 3 := iv_rem (k := 4) ez_36 iv_34 (by decide) (by decide) (by decide)
              refine k_imul X dX11_feed_96 ?_
              refine k_nm (fun z_38 ez_38 => ?_)
              have i_39 : z_38.toInt = 8 * z_36.toInt := in_mul ez_38 (by decide) (by decide) iv_37 (by decide) (by decide)
              have iv_40 : IV z_38 0 24 := iz4 i_39 iv_37 (by decide) (by decide) (by decide)
              refine k_isub X dX11_feed_97 ?_
              refine k_nm (fun z_41 ez_41 => ?_)
              have i_42 : z_41.toInt = 24 - z_38.toInt := in_sub ez_41 (show IV 24 24 24 from (by decide)) iv_40 (by decide) (by decide)
              have iv_43 : IV z_41 0 24 := iz7 i_42 iv_40 (by decide) (by decide)
              refine k_ishr X dX11_feed_98 ?_
              refine k_nm (fun z_44 ez_44 => ?_)
              refine k_sipush (v := 255) X dX11_feed_99 (by decide) ?_
              refine k_iand X dX11_feed_102 ?_
              refine k_nm (fun z_45 ez_45 => ?_)
              have iv_46 : IV z_45 0 255 := iv_and (ez_45.trans (Int32.and_comm _ _)) (show IV 255 255 255 from (by decide)) (by decide)
              refine k_iast [(cO11_i1r1i10r1i2r5i2r12i3r4i2 h0 0 a_tape u_11 m_size m_at m_end m_token m_whole m_nameSize m_fault m_place m_trouble a_letters m_failed m_hasHouse a_r a_fresh a_st a_undone a_kept m_undos m_images a_from a_begin a_motor a_change a_startFrame a_changeFrame a_lostAt a_blackAt a_slips a_leftArc a_died a_arcs m_bestSum m_nearest m_nearestTown a_there a_backAt a_sorted a_parts m_seed1 m_darkNow), (cAI g a_tape 900 (upd uf_8 (u_11 : Int32).toNatClampNeg z_45))] X dX11_feed_103 1 rfl (iv_in iv_35 (by decide) (by decide)) rfl ?_
              refine k_aload_n X dX11_feed_104 2 rfl ?_
              refine k_dup X dX11_feed_105 rfl ?_
              refine k_get (ci := 11) X inlX11 rfl 2 (by decide) dX11_feed_106 mw205 0 rfl rfl ?_
              refine k_iconst (v := 1) X dX11_feed_109 (by decide) ?_
              refine k_iadd X dX11_feed_110 ?_
              refine k_nm (fun z_48 ez_48 => ?_)
              have i_49 : z_48.toInt = u_11.toInt + 1 := in_add ez_48 iv_35 (show IV 1 1 1 from (by decide)) (by decide) (by decide)
              have iv_50 : IV z_48 1 900 := iz1 i_49 iv_35 (by decide) (by decide)
              refine k_put (ci := 11) [(cO11_i1r1i10r1i2r5i2r12i3r4i2 h0 0 a_tape z_48 m_size m_at m_end m_token m_whole m_nameSize m_fault m_place m_trouble a_letters m_failed m_hasHouse a_r a_fresh a_st a_undone a_kept m_undos m_images a_from a_begin a_motor a_change a_startFrame a_changeFrame a_lostAt a_blackAt a_slips a_leftArc a_died a_arcs m_bestSum m_nearest m_nearestTown a_there a_backAt a_sorted a_parts m_seed1 m_darkNow), (cAI g a_tape 900 (upd uf_8 (u_11 : Int32).toNatClampNeg z_45))] X inlX11 rfl tyX11_ok nmX11 2 (by decide) rfl dX11_feed_111 mw205 0 rfl rfl rfl (Nat.le_of_ble_eq_true rfl) rfl ?_
              obtain ⟨z_51, ez_51⟩ : ∃ y : Int32, u_9 + Int32.ofInt 1 = y := ⟨_, rfl⟩
              refine k_iinc z_51 [(6, .int z_51), (7, .int p4), (0, .ref h0), (1, .int p0), (2, .int p1), (3, .int p2), (4, .int p3), (5, .int p4)] 1 X dX11_feed_114 rfl ez_51 (by decide) rfl ?_
              have i_52 : z_51.toInt = u_9.toInt + 1 := in_inc ez_51 (by decide) iv_34 (by decide) (by decide)
              have iv_53 : IV z_51 17 20 := iz1 i_52 iv_34 (by decide) (by decide)
              refine k_goto 23 X dX11_feed_117 (by decide) ?_
              refine k_lv [(6, .int z_51), (0, .ref h0), (1, .int p0), (2, .int p1), (3, .int p2), (4, .int p3), (5, .int p4)] [0, 2, 3, 4, 5, 6, 7] rfl ?_
              exact ih_17 _ (by omega) ((upd uf_8 (u_11 : Int32).toNatClampNeg z_45)) z_51 z_48 rfl (iv_w iv_53 (by decide) (by decide)) (iv_w iv_50 (by decide) (by decide)) (by omega) (by omega) (fun d_tape2 m_taped2 m_thrown2 r h => h.elim (fun n_0 q => (KH_0 _ _ _ _ ⟨n_0 + 1, (Or.inr ⟨h_18, (Or.inl ⟨h_23, (Or.inl ⟨h_26, (Or.inl ⟨h_29, (Or.inl ⟨h_32, ⟨z_36, ez_36, ⟨z_38, ez_38, ⟨z_41, ez_41, ⟨z_44, ez_44, ⟨z_45, ez_45, ⟨z_48, ez_48, ⟨z_51, ez_51, q⟩⟩⟩⟩⟩⟩⟩⟩)⟩)⟩)⟩)⟩)⟩)))
            · skip
              have j_54 : u_9.toInt < 16 := iv_nle h_32
              have iv_55 : IV u_9 12 15 := iv_ltL (iv_nle h_32) iv_31 (show IV 16 16 16 from (by decide)) (by decide)
              refine k_iload X dX11_feed_69 5 rfl ?_
              refine k_goto 76 X dX11_feed_71 (by decide) ?_
              refine k_istore [(7, .int p3), (6, .int u_9), (0, .ref h0), (1, .int p0), (2, .int p1), (3, .int p2), (4, .int p3), (5, .int p4)] X dX11_feed_76 (by decide) rfl ?_
              have iv_56 : IV u_11 0 899 := by have := hv_12; have := hv_m_taped; rw [IV]; omega
              refine k_aload_n X dX11_feed_78 2 rfl ?_
              refine k_get (ci := 11) X inlX11 rfl 1 (by decide) dX11_feed_79 mw167 0 rfl rfl ?_
              refine k_aload_n X dX11_feed_82 2 rfl ?_
              refine k_get (ci := 11) X inlX11 rfl 2 (by decide) dX11_feed_83 mw205 0 rfl rfl ?_
              refine k_iload X dX11_feed_86 0 rfl ?_
              refine k_bipush (v := 24) X dX11_feed_88 (by decide) ?_
              refine k_bipush (v := 8) X dX11_feed_90 (by decide) ?_
              refine k_iload X dX11_feed_92 1 rfl ?_
              refine k_iconst (v := 4) X dX11_feed_94 (by decide) ?_
              refine k_irem X dX11_feed_95 (by decide) ?_
              refine k_nm (fun z_57 ez_57 => ?_)
              have iv_58 : IV z_57 0 3 := iv_rem (k := 4) ez_57 iv_55 (by decide) (by decide) (by decide)
              refine k_imul X dX11_feed_96 ?_
              refine k_nm (fun z_59 ez_59 => ?_)
              have i_60 : z_59.toInt = 8 * z_57.toInt := in_mul ez_59 (by decide) (by decide) iv_58 (by decide) (by decide)
              have iv_61 : IV z_59 0 24 := iz4 i_60 iv_58 (by decide) (by decide) (by decide)
              refine k_isub X dX11_feed_97 ?_
              refine k_nm (fun z_62 ez_62 => ?_)
              have i_63 : z_62.toInt = 24 - z_59.toInt := in_sub ez_62 (show IV 24 24 24 from (by decide)) iv_61 (by decide) (by decide)
              have iv_64 : IV z_62 0 24 := iz7 i_63 iv_61 (by decide) (by decide)
              refine k_ishr X dX11_feed_98 ?_
              refine k_nm (fun z_65 ez_65 => ?_)
              refine k_sipush (v := 255) X dX11_feed_99 (by decide) ?_
              refine k_iand X dX11_feed_102 ?_
              refine k_nm (fun z_66 ez_66 => ?_)
              have iv_67 : IV z_66 0 255 := iv_and (ez_66.trans (Int32.and_comm _ _)) (show IV 255 255 255 from (by decide)) (by decide)
              refine k_iast [(cO11_i1r1i10r1i2r5i2r12i3r4i2 h0 0 a_tape u_11 m_size m_at m_end m_token m_whole m_nameSize m_fault m_place m_trouble a_letters m_failed m_hasHouse a_r a_fresh a_st a_undone a_kept m_undos m_images a_from a_begin a_motor a_change a_startFrame a_changeFrame a_lostAt a_blackAt a_slips a_leftArc a_died a_arcs m_bestSum m_nearest m_nearestTown a_there a_backAt a_sorted a_parts m_seed1 m_darkNow), (cAI g a_tape 900 (upd uf_8 (u_11 : Int32).toNatClampNeg z_66))] X dX11_feed_103 1 rfl (iv_in iv_56 (by decide) (by decide)) rfl ?_
              refine k_aload_n X dX11_feed_104 2 rfl ?_
              refine k_dup X dX11_feed_105 rfl ?_
              refine k_get (ci := 11) X inlX11 rfl 2 (by decide) dX11_feed_106 mw205 0 rfl rfl ?_
              refine k_iconst (v := 1) X dX11_feed_109 (by decide) ?_
              refine k_iadd X dX11_feed_110 ?_
              refine k_nm (fun z_69 ez_69 => ?_)
              have i_70 : z_69.toInt = u_11.toInt + 1 := in_add ez_69 iv_56 (show IV 1 1 1 from (by decide)) (by decide) (by decide)
              have iv_71 : IV z_69 1 900 := iz1 i_70 iv_56 (by decide) (by decide)
              refine k_put (ci := 11) [(cO11_i1r1i10r1i2r5i2r12i3r4i2 h0 0 a_tape z_69 m_size m_at m_end m_token m_whole m_nameSize m_fault m_place m_trouble a_letters m_failed m_hasHouse a_r a_fresh a_st a_undone a_kept m_undos m_images a_from a_begin a_motor a_change a_startFrame a_changeFrame a_lostAt a_blackAt a_slips a_leftArc a_died a_arcs m_bestSum m_nearest m_nearestTown a_there a_backAt a_sorted a_parts m_seed1 m_darkNow), (cAI g a_tape 900 (upd uf_8 (u_11 : Int32).toNatClampNeg z_66))] X inlX11 rfl tyX11_ok nmX11 2 (by decide) rfl dX11_feed_111 mw205 0 rfl rfl rfl (Nat.le_of_ble_eq_true rfl) rfl ?_
              obtain ⟨z_72, ez_72⟩ : ∃ y : Int32, u_9 + Int32.ofInt 1 = y := ⟨_, rfl⟩
              refine k_iinc z_72 [(6, .int z_72), (7, .int p3), (0, .ref h0), (1, .int p0), (2, .int p1), (3, .int p2), (4, .int p3), (5, .int p4)] 1 X dX11_feed_114 rfl ez_72 (by decide) rfl ?_
              have i_73 : z_72.toInt = u_9.toInt + 1 := in_inc ez_72 (by decide) iv_55 (by decide) (by decide)
              have iv_74 : IV z_72 13 16 := iz1 i_73 iv_55 (by decide) (by decide)
              refine k_goto 23 X dX11_feed_117 (by decide) ?_
              refine k_lv [(6, .int z_72), (0, .ref h0), (1, .int p0), (2, .int p1), (3, .int p2), (4, .int p3), (5, .int p4)] [0, 2, 3, 4, 5, 6, 7] rfl ?_
              exact ih_17 _ (by omega) ((upd uf_8 (u_11 : Int32).toNatClampNeg z_66)) z_72 z_69 rfl (iv_w iv_74 (by decide) (by decide)) (iv_w iv_71 (by decide) (by decide)) (by omega) (by omega) (fun d_tape2 m_taped2 m_thrown2 r h => h.elim (fun n_0 q => (KH_0 _ _ _ _ ⟨n_0 + 1, (Or.inr ⟨h_18, (Or.inl ⟨h_23, (Or.inl ⟨h_26, (Or.inl ⟨h_29, (Or.inr ⟨h_32, ⟨z_57, ez_57, ⟨z_59, ez_59, ⟨z_62, ez_62, ⟨z_65, ez_65, ⟨z_66, ez_66, ⟨z_69, ez_69, ⟨z_72, ez_72, q⟩⟩⟩⟩⟩⟩⟩⟩)⟩)⟩)⟩)⟩)⟩)))
          · skip
            have j_75 : u_9.toInt < 12 := iv_nle h_29
            have iv_76 : IV u_9 8 11 := iv_ltL (iv_nle h_29) iv_28 (show IV 12 12 12 from (by decide)) (by decide)
            refine k_iload_n X dX11_feed_58 4 rfl ?_
            refine k_goto 76 X dX11_feed_59 (by decide) ?_
            refine k_istore [(7, .int p2), (6, .int u_9), (0, .ref h0), (1, .int p0), (2, .int p1), (3, .int p2), (4, .int p3), (5, .int p4)] X dX11_feed_76 (by decide) rfl ?_
            have iv_77 : IV u_11 0 899 := by have := hv_12; have := hv_m_taped; rw [IV]; omega
            refine k_aload_n X dX11_feed_78 2 rfl ?_
            refine k_get (ci := 11) X inlX11 rfl 1 (by decide) dX11_feed_79 mw167 0 rfl rfl ?_
            refine k_aload_n X dX11_feed_82 2 rfl ?_
            refine k_get (ci := 11) X inlX11 rfl 2 (by decide) dX11_feed_83 mw205 0 rfl rfl ?_
            refine k_iload X dX11_feed_86 0 rfl ?_
            refine k_bipush (v := 24) X dX11_feed_88 (by decide) ?_
            refine k_bipush (v := 8) X dX11_feed_90 (by decide) ?_
            refine k_iload X dX11_feed_92 1 rfl ?_
            refine k_iconst (v := 4) X dX11_feed_94 (by decide) ?_
            refine k_irem X dX11_feed_95 (by decide) ?_
            refine k_nm (fun z_78 ez_78 => ?_)
            have iv_79 : IV z_78 0 3 := iv_rem (k := 4) ez_78 iv_76 (by decide) (by decide) (by decide)
            refine k_imul X dX11_feed_96 ?_
            refine k_nm (fun z_80 ez_80 => ?_)
            have i_81 : z_80.toInt = 8 * z_78.toInt := in_mul ez_80 (by decide) (by decide) iv_79 (by decide) (by decide)
            have iv_82 : IV z_80 0 24 := iz4 i_81 iv_79 (by decide) (by decide) (by decide)
            refine k_isub X dX11_feed_97 ?_
            refine k_nm (fun z_83 ez_83 => ?_)
            have i_84 : z_83.toInt = 24 - z_80.toInt := in_sub ez_83 (show IV 24 24 24 from (by decide)) iv_82 (by decide) (by decide)
            have iv_85 : IV z_83 0 24 := iz7 i_84 iv_82 (by decide) (by decide)
            refine k_ishr X dX11_feed_98 ?_
            refine k_nm (fun z_86 ez_86 => ?_)
            refine k_sipush (v := 255) X dX11_feed_99 (by decide) ?_
            refine k_iand X dX11_feed_102 ?_
            refine k_nm (fun z_87 ez_87 => ?_)
            have iv_88 : IV z_87 0 255 := iv_and (ez_87.trans (Int32.and_comm _ _)) (show IV 255 255 255 from (by decide)) (by decide)
            refine k_iast [(cO11_i1r1i10r1i2r5i2r12i3r4i2 h0 0 a_tape u_11 m_size m_at m_end m_token m_whole m_nameSize m_fault m_place m_trouble a_letters m_failed m_hasHouse a_r a_fresh a_st a_undone a_kept m_undos m_images a_from a_begin a_motor a_change a_startFrame a_changeFrame a_lostAt a_blackAt a_slips a_leftArc a_died a_arcs m_bestSum m_nearest m_nearestTown a_there a_backAt a_sorted a_parts m_seed1 m_darkNow), (cAI g a_tape 900 (upd uf_8 (u_11 : Int32).toNatClampNeg z_87))] X dX11_feed_103 1 rfl (iv_in iv_77 (by decide) (by decide)) rfl ?_
            refine k_aload_n X dX11_feed_104 2 rfl ?_
            refine k_dup X dX11_feed_105 rfl ?_
            refine k_get (ci := 11) X inlX11 rfl 2 (by decide) dX11_feed_106 mw205 0 rfl rfl ?_
            refine k_iconst (v := 1) X dX11_feed_109 (by decide) ?_
            refine k_iadd X dX11_feed_110 ?_
            refine k_nm (fun z_90 ez_90 => ?_)
            have i_91 : z_90.toInt = u_11.toInt + 1 := in_add ez_90 iv_77 (show IV 1 1 1 from (by decide)) (by decide) (by decide)
            have iv_92 : IV z_90 1 900 := iz1 i_91 iv_77 (by decide) (by decide)
            refine k_put (ci := 11) [(cO11_i1r1i10r1i2r5i2r12i3r4i2 h0 0 a_tape z_90 m_size m_at m_end m_token m_whole m_nameSize m_fault m_place m_trouble a_letters m_failed m_hasHouse a_r a_fresh a_st a_undone a_kept m_undos m_images a_from a_begin a_motor a_change a_startFrame a_changeFrame a_lostAt a_blackAt a_slips a_leftArc a_died a_arcs m_bestSum m_nearest m_nearestTown a_there a_backAt a_sorted a_parts m_seed1 m_darkNow), (cAI g a_tape 900 (upd uf_8 (u_11 : Int32).toNatClampNeg z_87))] X inlX11 rfl tyX11_ok nmX11 2 (by decide) rfl dX11_feed_111 mw205 0 rfl rfl rfl (Nat.le_of_ble_eq_true rfl) rfl ?_
            obtain ⟨z_93, ez_93⟩ : ∃ y : Int32, u_9 + Int32.ofInt 1 = y := ⟨_, rfl⟩
            refine k_iinc z_93 [(6, .int z_93), (7, .int p2), (0, .ref h0), (1, .int p0), (2, .int p1), (3, .int p2), (4, .int p3), (5, .int p4)] 1 X dX11_feed_114 rfl ez_93 (by decide) rfl ?_
            have i_94 : z_93.toInt = u_9.toInt + 1 := in_inc ez_93 (by decide) iv_76 (by decide) (by decide)
            have iv_95 : IV z_93 9 12 := iz1 i_94 iv_76 (by decide) (by decide)
            refine k_goto 23 X dX11_feed_117 (by decide) ?_
            refine k_lv [(6, .int z_93), (0, .ref h0), (1, .int p0), (2, .int p1), (3, .int p2), (4, .int p3), (5, .int p4)] [0, 2, 3, 4, 5, 6, 7] rfl ?_
            exact ih_17 _ (by omega) ((upd uf_8 (u_11 : Int32).toNatClampNeg z_87)) z_93 z_90 rfl (iv_w iv_95 (by decide) (by decide)) (iv_w iv_92 (by decide) (by decide)) (by omega) (by omega) (fun d_tape2 m_taped2 m_thrown2 r h => h.elim (fun n_0 q => (KH_0 _ _ _ _ ⟨n_0 + 1, (Or.inr ⟨h_18, (Or.inl ⟨h_23, (Or.inl ⟨h_26, (Or.inr ⟨h_29, ⟨z_78, ez_78, ⟨z_80, ez_80, ⟨z_83, ez_83, ⟨z_86, ez_86, ⟨z_87, ez_87, ⟨z_90, ez_90, ⟨z_93, ez_93, q⟩⟩⟩⟩⟩⟩⟩⟩)⟩)⟩)⟩)⟩)))
        · skip
          have j_96 : u_9.toInt < 8 := iv_nle h_26
          have iv_97 : IV u_9 4 7 := iv_ltL (iv_nle h_26) iv_25 (show IV 8 8 8 from (by decide)) (by decide)
          refine k_iload_n X dX11_feed_47 3 rfl ?_
          refine k_goto 76 X dX11_feed_48 (by decide) ?_
          refine k_istore [(7, .int p1), (6, .int u_9), (0, .ref h0), (1, .int p0), (2, .int p1), (3, .int p2), (4, .int p3), (5, .int p4)] X dX11_feed_76 (by decide) rfl ?_
          have iv_98 : IV u_11 0 899 := by have := hv_12; have := hv_m_taped; rw [IV]; omega
          refine k_aload_n X dX11_feed_78 2 rfl ?_
          refine k_get (ci := 11) X inlX11 rfl 1 (by decide) dX11_feed_79 mw167 0 rfl rfl ?_
          refine k_aload_n X dX11_feed_82 2 rfl ?_
          refine k_get (ci := 11) X inlX11 rfl 2 (by decide) dX11_feed_83 mw205 0 rfl rfl ?_
          refine k_iload X dX11_feed_86 0 rfl ?_
          refine k_bipush (v := 24) X dX11_feed_88 (by decide) ?_
          refine k_bipush (v := 8) X dX11_feed_90 (by decide) ?_
          refine k_iload X dX11_feed_92 1 rfl ?_
          refine k_iconst (v := 4) X dX11_feed_94 (by decide) ?_
          refine k_irem X dX11_feed_95 (by decide) ?_
          refine k_nm (fun z_99 ez_99 => ?_)
          have iv_100 : IV z_99 0 3 := iv_rem (k := 4) ez_99 iv_97 (by decide) (by decide) (by decide)
          refine k_imul X dX11_feed_96 ?_
          refine k_nm (fun z_101 ez_101 => ?_)
          have i_102 : z_101.toInt = 8 * z_99.toInt := in_mul ez_101 (by decide) (by decide) iv_100 (by decide) (by decide)
          have iv_103 : IV z_101 0 24 := iz4 i_102 iv_100 (by decide) (by decide) (by decide)
          refine k_isub X dX11_feed_97 ?_
          refine k_nm (fun z_104 ez_104 => ?_)
          have i_105 : z_104.toInt = 24 - z_101.toInt := in_sub ez_104 (show IV 24 24 24 from (by decide)) iv_103 (by decide) (by decide)
          have iv_106 : IV z_104 0 24 := iz7 i_105 iv_103 (by decide) (by decide)
          refine k_ishr X dX11_feed_98 ?_
          refine k_nm (fun z_107 ez_107 => ?_)
          refine k_sipush (v := 255) X dX11_feed_99 (by decide) ?_
          refine k_iand X dX11_feed_102 ?_
          refine k_nm (fun z_108 ez_108 => ?_)
          have iv_109 : IV z_108 0 255 := iv_and (ez_108.trans (Int32.and_comm _ _)) (show IV 255 255 255 from (by decide)) (by decide)
          refine k_iast [(cO11_i1r1i10r1i2r5i2r12i3r4i2 h0 0 a_tape u_11 m_size m_at m_end m_token m_whole m_nameSize m_fault m_place m_trouble a_letters m_failed m_hasHouse a_r a_fresh a_st a_undone a_kept m_undos m_images a_from a_begin a_motor a_change a_startFrame a_changeFrame a_lostAt a_blackAt a_slips a_leftArc a_died a_arcs m_bestSum m_nearest m_nearestTown a_there a_backAt a_sorted a_parts m_seed1 m_darkNow), (cAI g a_tape 900 (upd uf_8 (u_11 : Int32).toNatClampNeg z_108))] X dX11_feed_103 1 rfl (iv_in iv_98 (by decide) (by decide)) rfl ?_
          refine k_aload_n X dX11_feed_104 2 rfl ?_
          refine k_dup X dX11_feed_105 rfl ?_
          refine k_get (ci := 11) X inlX11 rfl 2 (by decide) dX11_feed_106 mw205 0 rfl rfl ?_
          refine k_iconst (v := 1) X dX11_feed_109 (by decide) ?_
          refine k_iadd X dX11_feed_110 ?_
          refine k_nm (fun z_111 ez_111 => ?_)
          have i_112 : z_111.toInt = u_11.toInt + 1 := in_add ez_111 iv_98 (show IV 1 1 1 from (by decide)) (by decide) (by decide)
          have iv_113 : IV z_111 1 900 := iz1 i_112 iv_98 (by decide) (by decide)
          refine k_put (ci := 11) [(cO11_i1r1i10r1i2r5i2r12i3r4i2 h0 0 a_tape z_111 m_size m_at m_end m_token m_whole m_nameSize m_fault m_place m_trouble a_letters m_failed m_hasHouse a_r a_fresh a_st a_undone a_kept m_undos m_images a_from a_begin a_motor a_change a_startFrame a_changeFrame a_lostAt a_blackAt a_slips a_leftArc a_died a_arcs m_bestSum m_nearest m_nearestTown a_there a_backAt a_sorted a_parts m_seed1 m_darkNow), (cAI g a_tape 900 (upd uf_8 (u_11 : Int32).toNatClampNeg z_108))] X inlX11 rfl tyX11_ok nmX11 2 (by decide) rfl dX11_feed_111 mw205 0 rfl rfl rfl (Nat.le_of_ble_eq_true rfl) rfl ?_
          obtain ⟨z_114, ez_114⟩ : ∃ y : Int32, u_9 + Int32.ofInt 1 = y := ⟨_, rfl⟩
          refine k_iinc z_114 [(6, .int z_114), (7, .int p1), (0, .ref h0), (1, .int p0), (2, .int p1), (3, .int p2), (4, .int p3), (5, .int p4)] 1 X dX11_feed_114 rfl ez_114 (by decide) rfl ?_
          have i_115 : z_114.toInt = u_9.toInt + 1 := in_inc ez_114 (by decide) iv_97 (by decide) (by decide)
          have iv_116 : IV z_114 5 8 := iz1 i_115 iv_97 (by decide) (by decide)
          refine k_goto 23 X dX11_feed_117 (by decide) ?_
          refine k_lv [(6, .int z_114), (0, .ref h0), (1, .int p0), (2, .int p1), (3, .int p2), (4, .int p3), (5, .int p4)] [0, 2, 3, 4, 5, 6, 7] rfl ?_
          exact ih_17 _ (by omega) ((upd uf_8 (u_11 : Int32).toNatClampNeg z_108)) z_114 z_111 rfl (iv_w iv_116 (by decide) (by decide)) (iv_w iv_113 (by decide) (by decide)) (by omega) (by omega) (fun d_tape2 m_taped2 m_thrown2 r h => h.elim (fun n_0 q => (KH_0 _ _ _ _ ⟨n_0 + 1, (Or.inr ⟨h_18, (Or.inl ⟨h_23, (Or.inr ⟨h_26, ⟨z_99, ez_99, ⟨z_101, ez_101, ⟨z_104, ez_104, ⟨z_107, ez_107, ⟨z_108, ez_108, ⟨z_111, ez_111, ⟨z_114, ez_114, q⟩⟩⟩⟩⟩⟩⟩⟩)⟩)⟩)⟩)))
      · skip
        have j_117 : u_9.toInt < 4 := iv_nle h_23
        have iv_118 : IV u_9 0 3 := iv_ltL (iv_nle h_23) iv_22 (show IV 4 4 4 from (by decide)) (by decide)
        refine k_iload_n X dX11_feed_36 2 rfl ?_
        refine k_goto 76 X dX11_feed_37 (by decide) ?_
        refine k_istore [(7, .int p0), (6, .int u_9), (0, .ref h0), (1, .int p0), (2, .int p1), (3, .int p2), (4, .int p3), (5, .int p4)] X dX11_feed_76 (by decide) rfl ?_
        have iv_119 : IV u_11 0 899 := by have := hv_12; have := hv_m_taped; rw [IV]; omega
        refine k_aload_n X dX11_feed_78 2 rfl ?_
        refine k_get (ci := 11) X inlX11 rfl 1 (by decide) dX11_feed_79 mw167 0 rfl rfl ?_
        refine k_aload_n X dX11_feed_82 2 rfl ?_
        refine k_get (ci := 11) X inlX11 rfl 2 (by decide) dX11_feed_83 mw205 0 rfl rfl ?_
        refine k_iload X dX11_feed_86 0 rfl ?_
        refine k_bipush (v := 24) X dX11_feed_88 (by decide) ?_
        refine k_bipush (v := 8) X dX11_feed_90 (by decide) ?_
        refine k_iload X dX11_feed_92 1 rfl ?_
        refine k_iconst (v := 4) X dX11_feed_94 (by decide) ?_
        refine k_irem X dX11_feed_95 (by decide) ?_
        refine k_nm (fun z_120 ez_120 => ?_)
        have iv_121 : IV z_120 0 3 := iv_rem (k := 4) ez_120 iv_118 (by decide) (by decide) (by decide)
        refine k_imul X dX11_feed_96 ?_
        refine k_nm (fun z_122 ez_122 => ?_)
        have i_123 : z_122.toInt = 8 * z_120.toInt := in_mul ez_122 (by decide) (by decide) iv_121 (by decide) (by decide)
        have iv_124 : IV z_122 0 24 := iz4 i_123 iv_121 (by decide) (by decide) (by decide)
        refine k_isub X dX11_feed_97 ?_
        refine k_nm (fun z_125 ez_125 => ?_)
        have i_126 : z_125.toInt = 24 - z_122.toInt := in_sub ez_125 (show IV 24 24 24 from (by decide)) iv_124 (by decide) (by decide)
        have iv_127 : IV z_125 0 24 := iz7 i_126 iv_124 (by decide) (by decide)
        refine k_ishr X dX11_feed_98 ?_
        refine k_nm (fun z_128 ez_128 => ?_)
        refine k_sipush (v := 255) X dX11_feed_99 (by decide) ?_
        refine k_iand X dX11_feed_102 ?_
        refine k_nm (fun z_129 ez_129 => ?_)
        have iv_130 : IV z_129 0 255 := iv_and (ez_129.trans (Int32.and_comm _ _)) (show IV 255 255 255 from (by decide)) (by decide)
        refine k_iast [(cO11_i1r1i10r1i2r5i2r12i3r4i2 h0 0 a_tape u_11 m_size m_at m_end m_token m_whole m_nameSize m_fault m_place m_trouble a_letters m_failed m_hasHouse a_r a_fresh a_st a_undone a_kept m_undos m_images a_from a_begin a_motor a_change a_startFrame a_changeFrame a_lostAt a_blackAt a_slips a_leftArc a_died a_arcs m_bestSum m_nearest m_nearestTown a_there a_backAt a_sorted a_parts m_seed1 m_darkNow), (cAI g a_tape 900 (upd uf_8 (u_11 : Int32).toNatClampNeg z_129))] X dX11_feed_103 1 rfl (iv_in iv_119 (by decide) (by decide)) rfl ?_
        refine k_aload_n X dX11_feed_104 2 rfl ?_
        refine k_dup X dX11_feed_105 rfl ?_
        refine k_get (ci := 11) X inlX11 rfl 2 (by decide) dX11_feed_106 mw205 0 rfl rfl ?_
        refine k_iconst (v := 1) X dX11_feed_109 (by decide) ?_
        refine k_iadd X dX11_feed_110 ?_
        refine k_nm (fun z_132 ez_132 => ?_)
        have i_133 : z_132.toInt = u_11.toInt + 1 := in_add ez_132 iv_119 (show IV 1 1 1 from (by decide)) (by decide) (by decide)
        have iv_134 : IV z_132 1 900 := iz1 i_133 iv_119 (by decide) (by decide)
        refine k_put (ci := 11) [(cO11_i1r1i10r1i2r5i2r12i3r4i2 h0 0 a_tape z_132 m_size m_at m_end m_token m_whole m_nameSize m_fault m_place m_trouble a_letters m_failed m_hasHouse a_r a_fresh a_st a_undone a_kept m_undos m_images a_from a_begin a_motor a_change a_startFrame a_changeFrame a_lostAt a_blackAt a_slips a_leftArc a_died a_arcs m_bestSum m_nearest m_nearestTown a_there a_backAt a_sorted a_parts m_seed1 m_darkNow), (cAI g a_tape 900 (upd uf_8 (u_11 : Int32).toNatClampNeg z_129))] X inlX11 rfl tyX11_ok nmX11 2 (by decide) rfl dX11_feed_111 mw205 0 rfl rfl rfl (Nat.le_of_ble_eq_true rfl) rfl ?_
        obtain ⟨z_135, ez_135⟩ : ∃ y : Int32, u_9 + Int32.ofInt 1 = y := ⟨_, rfl⟩
        refine k_iinc z_135 [(6, .int z_135), (7, .int p0), (0, .ref h0), (1, .int p0), (2, .int p1), (3, .int p2), (4, .int p3), (5, .int p4)] 1 X dX11_feed_114 rfl ez_135 (by decide) rfl ?_
        have i_136 : z_135.toInt = u_9.toInt + 1 := in_inc ez_135 (by decide) iv_118 (by decide) (by decide)
        have iv_137 : IV z_135 1 4 := iz1 i_136 iv_118 (by decide) (by decide)
        refine k_goto 23 X dX11_feed_117 (by decide) ?_
        refine k_lv [(6, .int z_135), (0, .ref h0), (1, .int p0), (2, .int p1), (3, .int p2), (4, .int p3), (5, .int p4)] [0, 2, 3, 4, 5, 6, 7] rfl ?_
        exact ih_17 _ (by omega) ((upd uf_8 (u_11 : Int32).toNatClampNeg z_129)) z_135 z_132 rfl (iv_w iv_137 (by decide) (by decide)) (iv_w iv_134 (by decide) (by decide)) (by omega) (by omega) (fun d_tape2 m_taped2 m_thrown2 r h => h.elim (fun n_0 q => (KH_0 _ _ _ _ ⟨n_0 + 1, (Or.inr ⟨h_18, (Or.inr ⟨h_23, ⟨z_120, ez_120, ⟨z_122, ez_122, ⟨z_125, ez_125, ⟨z_128, ez_128, ⟨z_129, ez_129, ⟨z_132, ez_132, ⟨z_135, ez_135, q⟩⟩⟩⟩⟩⟩⟩⟩)⟩)⟩)))
  · skip
    have j_138 : 900 < z_1.toInt := iv_nle h_4
    have iv_139 : IV z_1 901 920 := iv_ltR (iv_nle h_4) (show IV 900 900 900 from (by decide)) iv_3 (by decide)
    have iv_140 : IV m_taped 881 900 := by have := hv_m_taped; have := iv_139; rw [IV]; omega
    refine k_iconst (v := -1) X dX11_feed_18 (by decide) ?_
    exact k_iret X hr dX11_feed_19 (Nat.le_of_ble_eq_true rfl) (Nat.le_of_ble_eq_true rfl) [0, 1] (by decide) rfl rfl ⟨d_tape, m_taped, 0, (iv_w iv_140 (by decide) (by decide)), (by refine ⟨fun q => ?_, fun q => ?_⟩ <;> first | exact ⟨rfl, rfl⟩ | exact ⟨rfl, by omega⟩ | (exfalso; omega)), ⟨z_1, ez_1, (Or.inr ⟨h_4, ⟨rfl, rfl, rfl, rfl⟩⟩)⟩, rfl⟩

