set_option maxRecDepth 100000
set_option maxHeartbeats 4000000

set_option maxHeartbeats 4000000 in
set_option maxRecDepth 100000 in
theorem m_manLineX (l : Launch) (g : Gx) (h0 : Nat) (m_thrown : Int32) (a_tape : Nat) (m_taped : Int32) (m_size : Int32) (m_at : Int32) (m_end : Int32) (m_token : Int32) (m_whole : Int32) (m_nameSize : Int32) (m_fault : Int32) (m_place : Int32) (m_trouble : Int32) (a_letters : Nat) (m_failed : Int32) (m_hasHouse : Int32) (a_r : Nat) (a_fresh : Nat) (a_st : Nat) (a_undone : Nat) (a_kept : Nat) (m_undos : Int32) (m_images : Int32) (a_from : Nat) (a_begin : Nat) (a_motor : Nat) (a_change : Nat) (a_startFrame : Nat) (a_changeFrame : Nat) (a_lostAt : Nat) (a_blackAt : Nat) (a_slips : Nat) (a_leftArc : Nat) (a_died : Nat) (a_arcs : Nat) (m_bestSum : Int32) (m_nearest : Int32) (m_nearestTown : Int32) (a_there : Nat) (a_backAt : Nat) (a_sorted : Nat) (a_parts : Nat) (m_seed1 : Int32) (m_darkNow : Int32) (d_tape : Nat → Int32) (d_letters : Nat → Int32) (d_fresh : Nat → Int32) (hv_m_size : IV m_size 0 900) (hv_m_end : IV m_end 0 900) (hv_m_nameSize : IV m_nameSize 0 900) (hv_m_failed : IV m_failed 0 1) (hp_d_fresh : RInv d_fresh) (hr_0 : TRI d_fresh) (hc_0 : m_failed = 1 ∨ ((d_fresh 11).toInt ≤ 3)) (hc_1 : m_token = 2 → IV m_nameSize 0 8) : cV l g yX11_manLine cX11_manLine 5 8 173 0 0 [.ref h0] [(cO11_i1r1i10r1i2r5i2r12i3r4i2 h0 m_thrown a_tape m_taped m_size m_at m_end m_token m_whole m_nameSize m_fault m_place m_trouble a_letters m_failed m_hasHouse a_r a_fresh a_st a_undone a_kept m_undos m_images a_from a_begin a_motor a_change a_startFrame a_changeFrame a_lostAt a_blackAt a_slips a_leftArc a_died a_arcs m_bestSum m_nearest m_nearestTown a_there a_backAt a_sorted a_parts m_seed1 m_darkNow), (cAI g a_tape 900 d_tape), (cAI g a_letters 8 d_letters), (cAI g a_fresh 311 d_fresh)] (fun w => ∃ (m_at2 : Int32) (m_end2 : Int32) (m_failed2 : Int32) (m_fault2 : Int32) (d_fresh2 : Nat → Int32) (d_letters2 : Nat → Int32) (m_nameSize2 : Int32) (m_place2 : Int32) (m_token2 : Int32) (m_whole2 : Int32), IV m_end2 0 900 ∧ IV m_failed2 0 1 ∧ IV m_nameSize2 0 900 ∧ RInv d_fresh2 ∧ (m_end.toInt ≤ m_end2.toInt) ∧ (TRI d_fresh2) ∧ (R_m_manLineX m_size m_at m_end m_token m_whole m_nameSize m_fault m_place m_failed d_tape d_letters d_fresh m_at2 m_end2 m_failed2 m_fault2 d_fresh2 d_letters2 m_nameSize2 m_place2 m_token2 m_whole2) ∧ (m_token2 = 2 → IV m_nameSize2 0 8) ∧ w = [(cO11_i1r1i10r1i2r5i2r12i3r4i2 h0 m_thrown a_tape m_taped m_size m_at2 m_end2 m_token2 m_whole2 m_nameSize2 m_fault2 m_place2 m_trouble a_letters m_failed2 m_hasHouse a_r a_fresh a_st a_undone a_kept m_undos m_images a_from a_begin a_motor a_change a_startFrame a_changeFrame a_lostAt a_blackAt a_slips a_leftArc a_died a_arcs m_bestSum m_nearest m_nearestTown a_there a_backAt a_sorted a_parts m_seed1 m_darkNow), (cAI g a_tape 900 d_tape), (cAI g a_letters 8 d_letters2), (cAI g a_fresh 311 d_fresh2)]) := by
  refine cV.of (by decide) (Nat.le_of_ble_eq_true rfl) ?_
  intro p e s m args below meth c A X hr hi
  refine k_lveq [(0, .ref h0)] rfl ?_
  refine k_aload_n X dX11_manLine_k0.1.1.1.1 0 rfl ?_
  refine k_get (ci := 11) X inlX11 rfl 13 (nlt_e rfl) dX11_manLine_k0.1.1.1.2 mw469 0 rfl rfl ?_
  refine k_if_eq 8 X dX11_manLine_k0.1.1.2.1 (jp_e rfl) (fun h_1 => ?_) (fun h_1 => ?_)
  · skip
    have iv_2 : IV m_failed 0 0 := iv_meet hv_m_failed (iv_e h_1 iq_0_0_0) (zle_o rfl) (zle_o rfl)
    have hc_3 := hc_0.resolve_left (fun q => iv_eqN q iv_2 iq_1_1_1 (by decide))
    have j_4 : (d_fresh 11).toInt ≤ 3 := hc_3
    refine k_bipush (v := 114) X dX11_manLine_k0.1.2.1.1 bi_114 ?_
    refine k_iconst (v := 3) X dX11_manLine_k0.1.2.1.2 ic_3 ?_
    refine k_aload_n X dX11_manLine_k0.1.2.2.1 0 rfl ?_
    refine k_get (ci := 11) X inlX11 rfl 16 (nlt_e rfl) dX11_manLine_k0.1.2.2.2 mw171 0 rfl rfl ?_
    refine k_bipush (v := 11) X dX11_manLine_k0.2.1.1.1 bi_11 ?_
    refine k_iald X dX11_manLine_k0.2.1.1.2 3 rfl (by unfold vp_in; decide) ?_
    refine k_nm (fun z_5 ez_5 => ?_)
    have i_6 : z_5.toInt = (d_fresh 11).toInt := by rw [ez_5]; rfl
    have iv_7 : IV z_5 0 3 := by have := rb_11 ez_5 hp_d_fresh; rw [IV]; omega
    refine k_imul X dX11_manLine_k0.2.1.2.1 ?_
    refine k_nm (fun z_8 ez_8 => ?_)
    have i_9 : z_8.toInt = 3 * z_5.toInt := in_mul ez_8 (by decide) (zle_e rfl) iv_7 (zle_e rfl) (zle_e rfl)
    have iv_10 : IV z_8 0 9 := iz4 i_9 iv_7 (zle_e rfl) (zle_e rfl) (zle_e rfl)
    refine k_iadd X dX11_manLine_k0.2.1.2.2 ?_
    refine k_nm (fun z_11 ez_11 => ?_)
    have i_12 : z_11.toInt = 114 + z_8.toInt := in_add ez_11 iq_114_114_114 iv_10 (zle_e rfl) (zle_e rfl)
    have iv_13 : IV z_11 114 123 := iz2 i_12 iv_10 (zle_e rfl) (zle_e rfl)
    refine k_istore_n [(1, .int z_11), (0, .ref h0)] X dX11_manLine_k0.2.2.1.1 (nlt_e rfl) rfl ?_
    refine k_aload_n X dX11_manLine_k0.2.2.1.2 1 rfl ?_
    refine k_bipush (v := 12) X dX11_manLine_k0.2.2.2.1 bi_12 ?_
    refine k_aload_n X dX11_manLine_k0.2.2.2.2 1 rfl ?_
    refine k_get (ci := 11) X inlX11 rfl 16 (nlt_e rfl) dX11_manLine_k1.1.1.1.1 mw171 0 rfl rfl ?_
    refine k_bipush (v := 11) X dX11_manLine_k1.1.1.1.2 bi_11 ?_
    refine k_iald X dX11_manLine_k1.1.1.2.1 3 rfl (by unfold vp_in; decide) ?_
    refine k_to z_5 ez_5.symm ?_
    refine k_iadd X dX11_manLine_k1.1.1.2.2 ?_
    refine k_nm (fun z_14 ez_14 => ?_)
    have i_15 : z_14.toInt = 12 + z_5.toInt := in_add ez_14 iq_12_12_12 iv_7 (zle_e rfl) (zle_e rfl)
    have iv_16 : IV z_14 12 15 := iz2 i_15 iv_7 (zle_e rfl) (zle_e rfl)
    refine k_callVV (n := 1) (As := [.int z_14]) (st := []) X [(cO11_i1r1i10r1i2r5i2r12i3r4i2 h0 m_thrown a_tape m_taped m_size m_at m_end m_token m_whole m_nameSize m_fault m_place m_trouble a_letters m_failed m_hasHouse a_r a_fresh a_st a_undone a_kept m_undos m_images a_from a_begin a_motor a_change a_startFrame a_changeFrame a_lostAt a_blackAt a_slips a_leftArc a_died a_arcs m_bestSum m_nearest m_nearestTown a_there a_backAt a_sorted a_parts m_seed1 m_darkNow), (cAI g a_tape 900 d_tape), (cAI g a_letters 8 d_letters), (cAI g a_fresh 311 d_fresh)] [] [0, 1, 2, 3] [] (m_newNameX l g h0 z_14 m_thrown a_tape m_taped m_size m_at m_end m_token m_whole m_nameSize m_fault m_place m_trouble a_letters m_failed m_hasHouse a_r a_fresh a_st a_undone a_kept m_undos m_images a_from a_begin a_motor a_change a_startFrame a_changeFrame a_lostAt a_blackAt a_slips a_leftArc a_died a_arcs m_bestSum m_nearest m_nearestTown a_there a_backAt a_sorted a_parts m_seed1 m_darkNow d_tape d_letters d_fresh (iv_w iv_16 (zle_e rfl) (zle_e rfl)) (iv_w hv_m_size (zle_e rfl) (zle_e rfl)) (iv_w hv_m_end (zle_e rfl) (zle_e rfl)) (iv_w hv_m_nameSize (zle_e rfl) (zle_e rfl)) (iv_w iv_2 (zle_e rfl) (zle_e rfl)) hp_d_fresh hc_1) dX11_manLine_k1.1.2.1.1 mw551 mw552 mw553 mw5 mw554 rfl 11 rfl rfl 0 _ rfl yk_yX11_newName_1 rfl (Nat.le_of_ble_eq_true rfl) (Nat.le_of_ble_eq_true rfl) (Nat.le_of_ble_eq_true rfl) (Nat.le_of_ble_eq_true rfl) (Nat.le_of_ble_eq_true rfl) rfl rfl (vnd_e rfl) rfl (vnd_e rfl) (dsj_e rfl) ?_
    intro w zq
    refine exE10 zq ?_
    clear zq
    intro m_at2_17 m_end2_18 m_failed2_19 m_fault2_20 d_fresh2_21 d_letters2_22 m_nameSize2_23 m_place2_24 m_token2_25 m_whole2_26 iv_28 zq
    refine exA7 zq ?_
    clear zq
    intro iv_29 iv_30 hp_31 hq_32 hq_33 hq_34 hk_35 zq
    subst zq
    refine k_ws [(cO11_i1r1i10r1i2r5i2r12i3r4i2 h0 m_thrown a_tape m_taped m_size m_at2_17 m_end2_18 m_token2_25 m_whole2_26 m_nameSize2_23 m_fault2_20 m_place2_24 m_trouble a_letters m_failed2_19 m_hasHouse a_r a_fresh a_st a_undone a_kept m_undos m_images a_from a_begin a_motor a_change a_startFrame a_changeFrame a_lostAt a_blackAt a_slips a_leftArc a_died a_arcs m_bestSum m_nearest m_nearestTown a_there a_backAt a_sorted a_parts m_seed1 m_darkNow), (cAI g a_tape 900 d_tape), (cAI g a_letters 8 d_letters2_22), (cAI g a_fresh 311 d_fresh2_21)] rfl ?_
    have hk_36 : K16 d_fresh d_fresh2_21 := KN.k16 hq_32 (by have := iv_16; omega)
    have ek_37 : z_5 = d_fresh2_21 (11 : Int32).toNatClampNeg := ez_5.trans (hk_36 _ (by decide)).symm
    have hT_38 : TRI d_fresh2_21 := tri_kn hr_0 hp_d_fresh hq_32 (by have := iv_16; omega) (by have := iv_16; omega)
    refine k_aload_n X dX11_manLine_k1.1.2.1.2 1 rfl ?_
    refine k_ldcwS (tx := "clean") X dX11_manLine_k1.1.2.2.1 (by decide +kernel) (fun sr_39 hsr_39 => ?_)
    refine k_callVI (n := 1) (As := [.ref sr_39]) (st := []) X [(cO11_i1r1i10r1i2r5i2r12i3r4i2 h0 m_thrown a_tape m_taped m_size m_at2_17 m_end2_18 m_token2_25 m_whole2_26 m_nameSize2_23 m_fault2_20 m_place2_24 m_trouble a_letters m_failed2_19 m_hasHouse a_r a_fresh a_st a_undone a_kept m_undos m_images a_from a_begin a_motor a_change a_startFrame a_changeFrame a_lostAt a_blackAt a_slips a_leftArc a_died a_arcs m_bestSum m_nearest m_nearestTown a_there a_backAt a_sorted a_parts m_seed1 m_darkNow), (cAI g a_letters 8 d_letters2_22)] [(cAI g a_tape 900 d_tape), (cAI g a_fresh 311 d_fresh2_21)] [0, 2] [1, 3] (m_isWordX l g h0 sr_39 m_thrown a_tape m_taped m_size m_at2_17 m_end2_18 m_token2_25 m_whole2_26 m_nameSize2_23 m_fault2_20 m_place2_24 m_trouble a_letters m_failed2_19 m_hasHouse a_r a_fresh a_st a_undone a_kept m_undos m_images a_from a_begin a_motor a_change a_startFrame a_changeFrame a_lostAt a_blackAt a_slips a_leftArc a_died a_arcs m_bestSum m_nearest m_nearestTown a_there a_backAt a_sorted a_parts m_seed1 m_darkNow d_letters2_22 ("clean") (iv_w iv_30 (zle_e rfl) (zle_e rfl)) (iv_w iv_29 (zle_e rfl) (zle_e rfl)) hsr_39 hk_35) dX11_manLine_k1.1.2.2.2 mw509 mw510 mw511 mw5 mw512 rfl 11 rfl rfl 0 _ rfl yk_yX11_isWord_1 rfl (Nat.le_of_ble_eq_true rfl) (Nat.le_of_ble_eq_true rfl) (Nat.le_of_ble_eq_true rfl) (Nat.le_of_ble_eq_true rfl) (Nat.le_of_ble_eq_true rfl) rfl rfl (vnd_e rfl) rfl (vnd_e rfl) (dsj_e rfl) ?_
    rintro r_40 w ⟨iv_41, hq_42, hk_43, rfl⟩
    refine k_ws [(cAI g a_tape 900 d_tape), (cAI g a_fresh 311 d_fresh2_21), (cO11_i1r1i10r1i2r5i2r12i3r4i2 h0 m_thrown a_tape m_taped m_size m_at2_17 m_end2_18 m_token2_25 m_whole2_26 m_nameSize2_23 m_fault2_20 m_place2_24 m_trouble a_letters m_failed2_19 m_hasHouse a_r a_fresh a_st a_undone a_kept m_undos m_images a_from a_begin a_motor a_change a_startFrame a_changeFrame a_lostAt a_blackAt a_slips a_leftArc a_died a_arcs m_bestSum m_nearest m_nearestTown a_there a_backAt a_sorted a_parts m_seed1 m_darkNow), (cAI g a_letters 8 d_letters2_22)] rfl ?_
    refine k_if_eq 49 X dX11_manLine_k1.2.1.1.1 (jp_e rfl) (fun h_44 => ?_) (fun h_44 => ?_)
    · skip
      have iv_45 : IV r_40 0 0 := iv_meet iv_41 (iv_e h_44 iq_0_0_0) (zle_o rfl) (zle_o rfl)
      refine k_aload_n X dX11_manLine_k1.2.1.2.2 1 rfl ?_
      refine k_ldcwS (tx := "early") X dX11_manLine_k1.2.2.1.1 (by decide +kernel) (fun sr_46 hsr_46 => ?_)
      refine k_callVI (n := 1) (As := [.ref sr_46]) (st := []) X [(cO11_i1r1i10r1i2r5i2r12i3r4i2 h0 m_thrown a_tape m_taped m_size m_at2_17 m_end2_18 m_token2_25 m_whole2_26 m_nameSize2_23 m_fault2_20 m_place2_24 m_trouble a_letters m_failed2_19 m_hasHouse a_r a_fresh a_st a_undone a_kept m_undos m_images a_from a_begin a_motor a_change a_startFrame a_changeFrame a_lostAt a_blackAt a_slips a_leftArc a_died a_arcs m_bestSum m_nearest m_nearestTown a_there a_backAt a_sorted a_parts m_seed1 m_darkNow), (cAI g a_letters 8 d_letters2_22)] [(cAI g a_tape 900 d_tape), (cAI g a_fresh 311 d_fresh2_21)] [2, 3] [0, 1] (m_isWordX l g h0 sr_46 m_thrown a_tape m_taped m_size m_at2_17 m_end2_18 m_token2_25 m_whole2_26 m_nameSize2_23 m_fault2_20 m_place2_24 m_trouble a_letters m_failed2_19 m_hasHouse a_r a_fresh a_st a_undone a_kept m_undos m_images a_from a_begin a_motor a_change a_startFrame a_changeFrame a_lostAt a_blackAt a_slips a_leftArc a_died a_arcs m_bestSum m_nearest m_nearestTown a_there a_backAt a_sorted a_parts m_seed1 m_darkNow d_letters2_22 ("early") (iv_w iv_30 (zle_e rfl) (zle_e rfl)) (iv_w iv_29 (zle_e rfl) (zle_e rfl)) hsr_46 hk_35) dX11_manLine_k1.2.2.1.2 mw509 mw510 mw511 mw5 mw512 rfl 11 rfl rfl 0 _ rfl yk_yX11_isWord_1 rfl (Nat.le_of_ble_eq_true rfl) (Nat.le_of_ble_eq_true rfl) (Nat.le_of_ble_eq_true rfl) (Nat.le_of_ble_eq_true rfl) (Nat.le_of_ble_eq_true rfl) rfl rfl (vnd_e rfl) rfl (vnd_e rfl) (dsj_e rfl) ?_
      rintro r_47 w ⟨iv_48, hq_49, hk_50, rfl⟩
      refine k_ws [(cAI g a_tape 900 d_tape), (cAI g a_fresh 311 d_fresh2_21), (cO11_i1r1i10r1i2r5i2r12i3r4i2 h0 m_thrown a_tape m_taped m_size m_at2_17 m_end2_18 m_token2_25 m_whole2_26 m_nameSize2_23 m_fault2_20 m_place2_24 m_trouble a_letters m_failed2_19 m_hasHouse a_r a_fresh a_st a_undone a_kept m_undos m_images a_from a_begin a_motor a_change a_startFrame a_changeFrame a_lostAt a_blackAt a_slips a_leftArc a_died a_arcs m_bestSum m_nearest m_nearestTown a_there a_backAt a_sorted a_parts m_seed1 m_darkNow), (cAI g a_letters 8 d_letters2_22)] rfl ?_
      refine k_if_eq 63 X dX11_manLine_k1.2.2.2.1 (jp_e rfl) (fun h_51 => ?_) (fun h_51 => ?_)
      · skip
        have iv_52 : IV r_47 0 0 := iv_meet iv_48 (iv_e h_51 iq_0_0_0) (zle_o rfl) (zle_o rfl)
        refine k_aload_n X dX11_manLine_k2.1.1.1.2 1 rfl ?_
        refine k_ldcwS (tx := "late") X dX11_manLine_k2.1.1.2.1 (by decide +kernel) (fun sr_53 hsr_53 => ?_)
        refine k_callVI (n := 1) (As := [.ref sr_53]) (st := []) X [(cO11_i1r1i10r1i2r5i2r12i3r4i2 h0 m_thrown a_tape m_taped m_size m_at2_17 m_end2_18 m_token2_25 m_whole2_26 m_nameSize2_23 m_fault2_20 m_place2_24 m_trouble a_letters m_failed2_19 m_hasHouse a_r a_fresh a_st a_undone a_kept m_undos m_images a_from a_begin a_motor a_change a_startFrame a_changeFrame a_lostAt a_blackAt a_slips a_leftArc a_died a_arcs m_bestSum m_nearest m_nearestTown a_there a_backAt a_sorted a_parts m_seed1 m_darkNow), (cAI g a_letters 8 d_letters2_22)] [(cAI g a_tape 900 d_tape), (cAI g a_fresh 311 d_fresh2_21)] [2, 3] [0, 1] (m_isWordX l g h0 sr_53 m_thrown a_tape m_taped m_size m_at2_17 m_end2_18 m_token2_25 m_whole2_26 m_nameSize2_23 m_fault2_20 m_place2_24 m_trouble a_letters m_failed2_19 m_hasHouse a_r a_fresh a_st a_undone a_kept m_undos m_images a_from a_begin a_motor a_change a_startFrame a_changeFrame a_lostAt a_blackAt a_slips a_leftArc a_died a_arcs m_bestSum m_nearest m_nearestTown a_there a_backAt a_sorted a_parts m_seed1 m_darkNow d_letters2_22 ("late") (iv_w iv_30 (zle_e rfl) (zle_e rfl)) (iv_w iv_29 (zle_e rfl) (zle_e rfl)) hsr_53 hk_35) dX11_manLine_k2.1.1.2.2 mw509 mw510 mw511 mw5 mw512 rfl 11 rfl rfl 0 _ rfl yk_yX11_isWord_1 rfl (Nat.le_of_ble_eq_true rfl) (Nat.le_of_ble_eq_true rfl) (Nat.le_of_ble_eq_true rfl) (Nat.le_of_ble_eq_true rfl) (Nat.le_of_ble_eq_true rfl) rfl rfl (vnd_e rfl) rfl (vnd_e rfl) (dsj_e rfl) ?_
        rintro r_54 w ⟨iv_55, hq_56, hk_57, rfl⟩
        refine k_ws [(cAI g a_tape 900 d_tape), (cAI g a_fresh 311 d_fresh2_21), (cO11_i1r1i10r1i2r5i2r12i3r4i2 h0 m_thrown a_tape m_taped m_size m_at2_17 m_end2_18 m_token2_25 m_whole2_26 m_nameSize2_23 m_fault2_20 m_place2_24 m_trouble a_letters m_failed2_19 m_hasHouse a_r a_fresh a_st a_undone a_kept m_undos m_images a_from a_begin a_motor a_change a_startFrame a_changeFrame a_lostAt a_blackAt a_slips a_leftArc a_died a_arcs m_bestSum m_nearest m_nearestTown a_there a_backAt a_sorted a_parts m_seed1 m_darkNow), (cAI g a_letters 8 d_letters2_22)] rfl ?_
        refine k_if_eq 77 X dX11_manLine_k2.1.2.1.1 (jp_e rfl) (fun h_58 => ?_) (fun h_58 => ?_)
        · skip
          have iv_59 : IV r_54 0 0 := iv_meet iv_55 (iv_e h_58 iq_0_0_0) (zle_o rfl) (zle_o rfl)
          refine k_aload_n X dX11_manLine_k2.1.2.2.2 1 rfl ?_
          refine k_ldcwS (tx := "misled") X dX11_manLine_k2.2.1.1.1 (by decide +kernel) (fun sr_60 hsr_60 => ?_)
          refine k_callVI (n := 1) (As := [.ref sr_60]) (st := []) X [(cO11_i1r1i10r1i2r5i2r12i3r4i2 h0 m_thrown a_tape m_taped m_size m_at2_17 m_end2_18 m_token2_25 m_whole2_26 m_nameSize2_23 m_fault2_20 m_place2_24 m_trouble a_letters m_failed2_19 m_hasHouse a_r a_fresh a_st a_undone a_kept m_undos m_images a_from a_begin a_motor a_change a_startFrame a_changeFrame a_lostAt a_blackAt a_slips a_leftArc a_died a_arcs m_bestSum m_nearest m_nearestTown a_there a_backAt a_sorted a_parts m_seed1 m_darkNow), (cAI g a_letters 8 d_letters2_22)] [(cAI g a_tape 900 d_tape), (cAI g a_fresh 311 d_fresh2_21)] [2, 3] [0, 1] (m_isWordX l g h0 sr_60 m_thrown a_tape m_taped m_size m_at2_17 m_end2_18 m_token2_25 m_whole2_26 m_nameSize2_23 m_fault2_20 m_place2_24 m_trouble a_letters m_failed2_19 m_hasHouse a_r a_fresh a_st a_undone a_kept m_undos m_images a_from a_begin a_motor a_change a_startFrame a_changeFrame a_lostAt a_blackAt a_slips a_leftArc a_died a_arcs m_bestSum m_nearest m_nearestTown a_there a_backAt a_sorted a_parts m_seed1 m_darkNow d_letters2_22 ("misled") (iv_w iv_30 (zle_e rfl) (zle_e rfl)) (iv_w iv_29 (zle_e rfl) (zle_e rfl)) hsr_60 hk_35) dX11_manLine_k2.2.1.1.2 mw509 mw510 mw511 mw5 mw512 rfl 11 rfl rfl 0 _ rfl yk_yX11_isWord_1 rfl (Nat.le_of_ble_eq_true rfl) (Nat.le_of_ble_eq_true rfl) (Nat.le_of_ble_eq_true rfl) (Nat.le_of_ble_eq_true rfl) (Nat.le_of_ble_eq_true rfl) rfl rfl (vnd_e rfl) rfl (vnd_e rfl) (dsj_e rfl) ?_
          rintro r_61 w ⟨iv_62, hq_63, hk_64, rfl⟩
          refine k_ws [(cAI g a_tape 900 d_tape), (cAI g a_fresh 311 d_fresh2_21), (cO11_i1r1i10r1i2r5i2r12i3r4i2 h0 m_thrown a_tape m_taped m_size m_at2_17 m_end2_18 m_token2_25 m_whole2_26 m_nameSize2_23 m_fault2_20 m_place2_24 m_trouble a_letters m_failed2_19 m_hasHouse a_r a_fresh a_st a_undone a_kept m_undos m_images a_from a_begin a_motor a_change a_startFrame a_changeFrame a_lostAt a_blackAt a_slips a_leftArc a_died a_arcs m_bestSum m_nearest m_nearestTown a_there a_backAt a_sorted a_parts m_seed1 m_darkNow), (cAI g a_letters 8 d_letters2_22)] rfl ?_
          refine k_if_eq 91 X dX11_manLine_k2.2.1.2.1 (jp_e rfl) (fun h_65 => ?_) (fun h_65 => ?_)
          · skip
            have iv_66 : IV r_61 0 0 := iv_meet iv_62 (iv_e h_65 iq_0_0_0) (zle_o rfl) (zle_o rfl)
            refine k_iconst (v := -1) X dX11_manLine_k2.2.2.1.2 ic_m1 ?_
            refine k_istore_n [(2, .int (-1)), (1, .int z_11), (0, .ref h0)] X dX11_manLine_k2.2.2.2.1 (nlt_e rfl) rfl ?_
            refine k_iload_n X dX11_manLine_k2.2.2.2.2 0 rfl ?_
            refine k_if_ge 106 X dX11_manLine_k3.1.1.1.1 (jp_e rfl) (fun h_67 => absurd h_67 (by decide)) (fun _ => ?_)
            refine k_aload_n X dX11_manLine_k3.1.1.1.2 2 rfl ?_
            refine k_iconst (v := 1) X dX11_manLine_k3.1.1.2.1 ic_1 ?_
            refine k_aload_n X dX11_manLine_k3.1.1.2.2 2 rfl ?_
            refine k_get (ci := 11) X inlX11 rfl 4 (nlt_e rfl) dX11_manLine_k3.1.2.1.1 mw473 2 rfl rfl ?_
            refine k_callVV (n := 2) (As := [.int 1, .int m_at2_17]) (st := []) X [(cO11_i1r1i10r1i2r5i2r12i3r4i2 h0 m_thrown a_tape m_taped m_size m_at2_17 m_end2_18 m_token2_25 m_whole2_26 m_nameSize2_23 m_fault2_20 m_place2_24 m_trouble a_letters m_failed2_19 m_hasHouse a_r a_fresh a_st a_undone a_kept m_undos m_images a_from a_begin a_motor a_change a_startFrame a_changeFrame a_lostAt a_blackAt a_slips a_leftArc a_died a_arcs m_bestSum m_nearest m_nearestTown a_there a_backAt a_sorted a_parts m_seed1 m_darkNow)] [(cAI g a_tape 900 d_tape), (cAI g a_fresh 311 d_fresh2_21), (cAI g a_letters 8 d_letters2_22)] [2] [0, 1, 3] (m_badX l g h0 1 m_at2_17 m_thrown a_tape m_taped m_size m_at2_17 m_end2_18 m_token2_25 m_whole2_26 m_nameSize2_23 m_fault2_20 m_place2_24 m_trouble a_letters m_failed2_19 m_hasHouse a_r a_fresh a_st a_undone a_kept m_undos m_images a_from a_begin a_motor a_change a_startFrame a_changeFrame a_lostAt a_blackAt a_slips a_leftArc a_died a_arcs m_bestSum m_nearest m_nearestTown a_there a_backAt a_sorted a_parts m_seed1 m_darkNow (iv_w iv_29 (zle_e rfl) (zle_e rfl))) dX11_manLine_k3.1.2.1.2 mw519 mw520 mw521 mw5 mw522 rfl 11 rfl rfl 0 _ rfl yk_yX11_bad_2 rfl (Nat.le_of_ble_eq_true rfl) (Nat.le_of_ble_eq_true rfl) (Nat.le_of_ble_eq_true rfl) (Nat.le_of_ble_eq_true rfl) (Nat.le_of_ble_eq_true rfl) rfl rfl (vnd_e rfl) rfl (vnd_e rfl) (dsj_e rfl) ?_
            rintro w ⟨m_failed2_68, m_fault2_69, m_place2_70, iv_72, hq_73, rfl⟩
            refine k_ws [(cAI g a_tape 900 d_tape), (cAI g a_fresh 311 d_fresh2_21), (cAI g a_letters 8 d_letters2_22), (cO11_i1r1i10r1i2r5i2r12i3r4i2 h0 m_thrown a_tape m_taped m_size m_at2_17 m_end2_18 m_token2_25 m_whole2_26 m_nameSize2_23 m_fault2_69 m_place2_70 m_trouble a_letters m_failed2_68 m_hasHouse a_r a_fresh a_st a_undone a_kept m_undos m_images a_from a_begin a_motor a_change a_startFrame a_changeFrame a_lostAt a_blackAt a_slips a_leftArc a_died a_arcs m_bestSum m_nearest m_nearestTown a_there a_backAt a_sorted a_parts m_seed1 m_darkNow)] rfl ?_
            refine k_aload_n X dX11_manLine_k3.1.2.2.1 2 rfl ?_
            refine k_get (ci := 11) X inlX11 rfl 13 (nlt_e rfl) dX11_manLine_k3.1.2.2.2 mw469 3 rfl rfl ?_
            refine k_if_eq 114 X dX11_manLine_k3.2.1.1.1 (jp_e rfl) (fun h_74 => (iv_eqN h_74 iv_72 iq_0_0_0 (by decide)).elim) (fun h_74 => ?_)
            exact k_vret X hr dX11_manLine_k3.2.1.1.2 (Nat.le_of_ble_eq_true rfl) (Nat.le_of_ble_eq_true rfl) [3, 0, 2, 1] (vnd_e rfl) rfl rfl ⟨m_at2_17, m_end2_18, m_failed2_68, m_fault2_69, d_fresh2_21, d_letters2_22, m_nameSize2_23, m_place2_70, m_token2_25, m_whole2_26, (iv_w iv_28 (zle_e rfl) (zle_e rfl)), (iv_w iv_72 (zle_e rfl) (zle_e rfl)), (iv_w iv_30 (zle_e rfl) (zle_e rfl)), hp_31, (by omega), hT_38, (Or.inl ⟨h_1, ⟨z_5, ez_5, ⟨z_8, ez_8, ⟨z_11, ez_11, ⟨z_14, ez_14, ⟨m_at2_17, m_end2_18, m_failed2_19, m_fault2_20, d_fresh2_21, d_letters2_22, m_nameSize2_23, m_place2_24, m_token2_25, m_whole2_26, hq_34, ⟨r_40, hq_42, (Or.inl ⟨h_44, ⟨r_47, hq_49, (Or.inl ⟨h_51, ⟨r_54, hq_56, (Or.inl ⟨h_58, ⟨r_61, hq_63, (Or.inl ⟨h_65, ⟨m_failed2_68, m_fault2_69, m_place2_70, hq_73, ⟨rfl, rfl, rfl, rfl, rfl, rfl, rfl, rfl, rfl, rfl⟩⟩⟩)⟩⟩)⟩⟩)⟩⟩)⟩⟩⟩⟩⟩⟩⟩), hk_35, rfl⟩
          · skip
            have hc_75 := hk_64.resolve_left h_65
            have iv_76 : IV m_token2_25 2 2 := iv_meet (iv_any m_token2_25) hc_75.1 (zle_o rfl) (zle_o rfl)
            have hc_77 := hk_35 (iv_eq iv_76 iq_2_2_2)
            have iv_78 : IV m_nameSize2_23 0 8 := iv_meet iv_30 hc_77 (zle_o rfl) (zle_o rfl)
            have iv_79 : IV m_failed2_19 0 0 := iv_meet iv_29 hc_75.2 (zle_o rfl) (zle_o rfl)
            have iv_80 : IV r_61 1 1 := iv_neL h_65 iv_62 iq_0_0_0 (zle_e rfl)
            refine k_iconst (v := 3) X dX11_manLine_k2.2.1.2.2 ic_3 ?_
            refine k_goto 92 X dX11_manLine_k2.2.2.1.1 (jp_e rfl) ?_
            refine k_istore_n [(2, .int 3), (1, .int z_11), (0, .ref h0)] X dX11_manLine_k2.2.2.2.1 (nlt_e rfl) rfl ?_
            refine k_iload_n X dX11_manLine_k2.2.2.2.2 0 rfl ?_
            refine k_if_ge 106 X dX11_manLine_k3.1.1.1.1 (jp_e rfl) (fun _ => ?_) (fun h_81 => absurd (by decide) h_81)
            refine k_aload_n X dX11_manLine_k3.1.2.2.1 2 rfl ?_
            refine k_get (ci := 11) X inlX11 rfl 13 (nlt_e rfl) dX11_manLine_k3.1.2.2.2 mw469 2 rfl rfl ?_
            refine k_if_eq 114 X dX11_manLine_k3.2.1.1.1 (jp_e rfl) (fun h_82 => ?_) (fun h_82 => absurd (iv_eq iv_79 iq_0_0_0) h_82)
            refine k_aload_n X dX11_manLine_k3.2.1.2.1 2 rfl ?_
            refine k_callVV (n := 0) (As := []) (st := []) X [(cO11_i1r1i10r1i2r5i2r12i3r4i2 h0 m_thrown a_tape m_taped m_size m_at2_17 m_end2_18 m_token2_25 m_whole2_26 m_nameSize2_23 m_fault2_20 m_place2_24 m_trouble a_letters m_failed2_19 m_hasHouse a_r a_fresh a_st a_undone a_kept m_undos m_images a_from a_begin a_motor a_change a_startFrame a_changeFrame a_lostAt a_blackAt a_slips a_leftArc a_died a_arcs m_bestSum m_nearest m_nearestTown a_there a_backAt a_sorted a_parts m_seed1 m_darkNow), (cAI g a_tape 900 d_tape), (cAI g a_letters 8 d_letters2_22)] [(cAI g a_fresh 311 d_fresh2_21)] [2, 0, 3] [1] (m_nextX l g h0 m_thrown a_tape m_taped m_size m_at2_17 m_end2_18 m_token2_25 m_whole2_26 m_nameSize2_23 m_fault2_20 m_place2_24 m_trouble a_letters m_failed2_19 m_hasHouse a_r a_fresh a_st a_undone a_kept m_undos m_images a_from a_begin a_motor a_change a_startFrame a_changeFrame a_lostAt a_blackAt a_slips a_leftArc a_died a_arcs m_bestSum m_nearest m_nearestTown a_there a_backAt a_sorted a_parts m_seed1 m_darkNow d_tape d_letters2_22 (iv_w hv_m_size (zle_e rfl) (zle_e rfl)) (iv_w iv_28 (zle_e rfl) (zle_e rfl)) (iv_w iv_78 (zle_e rfl) (zle_e rfl))) dX11_manLine_k3.2.1.2.2 mw489 mw490 mw491 mw5 mw492 rfl 11 rfl rfl 0 _ rfl yk_yX11_next_0 rfl (Nat.le_of_ble_eq_true rfl) (Nat.le_of_ble_eq_true rfl) (Nat.le_of_ble_eq_true rfl) (Nat.le_of_ble_eq_true rfl) (Nat.le_of_ble_eq_true rfl) rfl rfl (vnd_e rfl) rfl (vnd_e rfl) (dsj_e rfl) ?_
            intro w zq
            refine exE6 zq ?_
            clear zq
            intro m_at2_83 m_end2_84 d_letters2_85 m_nameSize2_86 m_token2_87 m_whole2_88 iv_90 zq
            refine exA5 zq ?_
            clear zq
            intro iv_91 hq_92 hq_93 hq_94 hk_95 zq
            subst zq
            refine k_ws [(cAI g a_fresh 311 d_fresh2_21), (cO11_i1r1i10r1i2r5i2r12i3r4i2 h0 m_thrown a_tape m_taped m_size m_at2_83 m_end2_84 m_token2_87 m_whole2_88 m_nameSize2_86 m_fault2_20 m_place2_24 m_trouble a_letters m_failed2_19 m_hasHouse a_r a_fresh a_st a_undone a_kept m_undos m_images a_from a_begin a_motor a_change a_startFrame a_changeFrame a_lostAt a_blackAt a_slips a_leftArc a_died a_arcs m_bestSum m_nearest m_nearestTown a_there a_backAt a_sorted a_parts m_seed1 m_darkNow), (cAI g a_tape 900 d_tape), (cAI g a_letters 8 d_letters2_85)] rfl ?_
            refine k_iconst (v := 0) X dX11_manLine_k3.2.2.1.1 ic_0 ?_
            refine k_istore_n [(3, .int 0), (2, .int 3), (1, .int z_11), (0, .ref h0)] X dX11_manLine_k3.2.2.1.2 (nlt_e rfl) rfl ?_
            refine k_iload_n X dX11_manLine_k3.2.2.2.1 1 rfl ?_
            refine k_iconst (v := 3) X dX11_manLine_k3.2.2.2.2 ic_3 ?_
            refine k_ic_ne 145 X dX11_manLine_k4.1.1.1.1 (jp_e rfl) (fun h_96 => absurd h_96 (by decide)) (fun _ => ?_)
            refine k_aload_n X dX11_manLine_k4.1.1.1.2 3 rfl ?_
            refine k_bipush (v := 8) X dX11_manLine_k4.1.1.2.1 bi_8 ?_
            refine k_bipush (v := 11) X dX11_manLine_k4.1.1.2.2 bi_11 ?_
            refine k_callVI (n := 2) (As := [.int 8, .int 11]) (st := []) X [(cO11_i1r1i10r1i2r5i2r12i3r4i2 h0 m_thrown a_tape m_taped m_size m_at2_83 m_end2_84 m_token2_87 m_whole2_88 m_nameSize2_86 m_fault2_20 m_place2_24 m_trouble a_letters m_failed2_19 m_hasHouse a_r a_fresh a_st a_undone a_kept m_undos m_images a_from a_begin a_motor a_change a_startFrame a_changeFrame a_lostAt a_blackAt a_slips a_leftArc a_died a_arcs m_bestSum m_nearest m_nearestTown a_there a_backAt a_sorted a_parts m_seed1 m_darkNow), (cAI g a_letters 8 d_letters2_85), (cAI g a_fresh 311 d_fresh2_21)] [(cAI g a_tape 900 d_tape)] [1, 3, 0] [2] (m_namedTX l g h0 m_thrown a_tape m_taped m_size m_at2_83 m_end2_84 m_token2_87 m_whole2_88 m_nameSize2_86 m_fault2_20 m_place2_24 m_trouble a_letters m_failed2_19 m_hasHouse a_r a_fresh a_st a_undone a_kept m_undos m_images a_from a_begin a_motor a_change a_startFrame a_changeFrame a_lostAt a_blackAt a_slips a_leftArc a_died a_arcs m_bestSum m_nearest m_nearestTown a_there a_backAt a_sorted a_parts m_seed1 m_darkNow d_letters2_85 d_fresh2_21 (iv_w iv_91 (zle_e rfl) (zle_e rfl)) (iv_w iv_79 (zle_e rfl) (zle_e rfl)) hp_31 hk_95) dX11_manLine_k4.1.2.1.1 mw575 mw576 mw577 mw5 mw578 rfl 11 rfl rfl 0 _ rfl yk_yX11_named_2 rfl (Nat.le_of_ble_eq_true rfl) (Nat.le_of_ble_eq_true rfl) (Nat.le_of_ble_eq_true rfl) (Nat.le_of_ble_eq_true rfl) (Nat.le_of_ble_eq_true rfl) rfl rfl (vnd_e rfl) rfl (vnd_e rfl) (dsj_e rfl) ?_
            rintro r_100 w ⟨m_failed2_97, m_fault2_98, m_place2_99, iv_101, iv_102, hq_103, hq_104, rfl⟩
            refine k_ws [(cAI g a_tape 900 d_tape), (cO11_i1r1i10r1i2r5i2r12i3r4i2 h0 m_thrown a_tape m_taped m_size m_at2_83 m_end2_84 m_token2_87 m_whole2_88 m_nameSize2_86 m_fault2_98 m_place2_99 m_trouble a_letters m_failed2_97 m_hasHouse a_r a_fresh a_st a_undone a_kept m_undos m_images a_from a_begin a_motor a_change a_startFrame a_changeFrame a_lostAt a_blackAt a_slips a_leftArc a_died a_arcs m_bestSum m_nearest m_nearestTown a_there a_backAt a_sorted a_parts m_seed1 m_darkNow), (cAI g a_letters 8 d_letters2_85), (cAI g a_fresh 311 d_fresh2_21)] rfl ?_
            refine k_istore_n [(3, .int r_100), (2, .int 3), (1, .int z_11), (0, .ref h0)] X dX11_manLine_k4.1.2.1.2 (nlt_e rfl) rfl ?_
            refine k_aload_n X dX11_manLine_k4.1.2.2.1 3 rfl ?_
            refine k_get (ci := 11) X inlX11 rfl 13 (nlt_e rfl) dX11_manLine_k4.1.2.2.2 mw469 1 rfl rfl ?_
            refine k_if_ne 145 X dX11_manLine_k4.2.1.1.1 (jp_e rfl) (fun h_105 => ?_) (fun h_105 => ?_)
            · skip
              have iv_106 : IV m_failed2_97 1 1 := iv_neL h_105 iv_101 iq_0_0_0 (zle_e rfl)
              refine k_aload_n X dX11_manLine_k4.2.1.2.2 3 rfl ?_
              refine k_ldcwS (tx := "slip") X dX11_manLine_k4.2.2.1.1 (by decide +kernel) (fun sr_107 hsr_107 => ?_)
              refine k_iconst (v := 0) X dX11_manLine_k4.2.2.1.2 ic_0 ?_
              refine k_bipush (v := 40) X dX11_manLine_k4.2.2.2.1 bi_40 ?_
              refine k_callVI (n := 3) (As := [.ref sr_107, .int 0, .int 40]) (st := []) X [(cO11_i1r1i10r1i2r5i2r12i3r4i2 h0 m_thrown a_tape m_taped m_size m_at2_83 m_end2_84 m_token2_87 m_whole2_88 m_nameSize2_86 m_fault2_98 m_place2_99 m_trouble a_letters m_failed2_97 m_hasHouse a_r a_fresh a_st a_undone a_kept m_undos m_images a_from a_begin a_motor a_change a_startFrame a_changeFrame a_lostAt a_blackAt a_slips a_leftArc a_died a_arcs m_bestSum m_nearest m_nearestTown a_there a_backAt a_sorted a_parts m_seed1 m_darkNow), (cAI g a_tape 900 d_tape), (cAI g a_letters 8 d_letters2_85)] [(cAI g a_fresh 311 d_fresh2_21)] [1, 0, 2] [3] (m_afterX l g h0 sr_107 0 40 m_thrown a_tape m_taped m_size m_at2_83 m_end2_84 m_token2_87 m_whole2_88 m_nameSize2_86 m_fault2_98 m_place2_99 m_trouble a_letters m_failed2_97 m_hasHouse a_r a_fresh a_st a_undone a_kept m_undos m_images a_from a_begin a_motor a_change a_startFrame a_changeFrame a_lostAt a_blackAt a_slips a_leftArc a_died a_arcs m_bestSum m_nearest m_nearestTown a_there a_backAt a_sorted a_parts m_seed1 m_darkNow d_tape d_letters2_85 ("slip") (iv_w hv_m_size (zle_e rfl) (zle_e rfl)) (iv_w iv_90 (zle_e rfl) (zle_e rfl)) (iv_w iv_91 (zle_e rfl) (zle_e rfl)) (iv_w iv_106 (zle_e rfl) (zle_e rfl)) hsr_107 hk_95) dX11_manLine_k4.2.2.2.2 mw523 mw524 mw525 mw5 mw526 rfl 11 rfl rfl 0 _ rfl yk_yX11_after_3 rfl (Nat.le_of_ble_eq_true rfl) (Nat.le_of_ble_eq_true rfl) (Nat.le_of_ble_eq_true rfl) (Nat.le_of_ble_eq_true rfl) (Nat.le_of_ble_eq_true rfl) rfl rfl (vnd_e rfl) rfl (vnd_e rfl) (dsj_e rfl) ?_
              intro r_117 w zq
              refine exE9 zq ?_
              clear zq
              intro m_at2_108 m_end2_109 m_failed2_110 m_fault2_111 d_letters2_112 m_nameSize2_113 m_place2_114 m_token2_115 m_whole2_116 iv_118 zq
              refine exA6 zq ?_
              clear zq
              intro iv_119 iv_120 hq_121 hq_122 hq_123 hk_124 zq
              subst zq
              refine k_ws [(cAI g a_fresh 311 d_fresh2_21), (cO11_i1r1i10r1i2r5i2r12i3r4i2 h0 m_thrown a_tape m_taped m_size m_at2_108 m_end2_109 m_token2_115 m_whole2_116 m_nameSize2_113 m_fault2_111 m_place2_114 m_trouble a_letters m_failed2_110 m_hasHouse a_r a_fresh a_st a_undone a_kept m_undos m_images a_from a_begin a_motor a_change a_startFrame a_changeFrame a_lostAt a_blackAt a_slips a_leftArc a_died a_arcs m_bestSum m_nearest m_nearestTown a_there a_backAt a_sorted a_parts m_seed1 m_darkNow), (cAI g a_tape 900 d_tape), (cAI g a_letters 8 d_letters2_112)] rfl ?_
              have e_125 : (0 : Int32).toInt = 0 := by decide
              have e_126 : (40 : Int32).toInt = 40 := by decide
              have iv_127 : IV r_117 0 40 := by have := iq_0_0_0; have := iq_40_40_40; rw [IV]; omega
              refine k_istore [(4, .int r_117), (3, .int r_100), (2, .int 3), (1, .int z_11), (0, .ref h0)] X dX11_manLine_k5.1.1.1.1 (nlt_e rfl) rfl ?_
              refine k_aload_n X dX11_manLine_k5.1.1.1.2 4 rfl ?_
              refine k_get (ci := 11) X inlX11 rfl 13 (nlt_e rfl) dX11_manLine_k5.1.1.2.1 mw469 1 rfl rfl ?_
              refine k_if_eq 165 X dX11_manLine_k5.1.1.2.2 (jp_e rfl) (fun h_128 => ?_) (fun h_128 => ?_)
              · skip
                have iv_129 : IV m_failed2_110 0 0 := iv_meet iv_119 (iv_e h_128 iq_0_0_0) (zle_o rfl) (zle_o rfl)
                refine k_aload_n X dX11_manLine_k5.1.2.1.2 4 rfl ?_
                refine k_get (ci := 11) X inlX11 rfl 16 (nlt_e rfl) dX11_manLine_k5.1.2.2.1 mw171 1 rfl rfl ?_
                refine k_iload_n X dX11_manLine_k5.1.2.2.2 3 rfl ?_
                refine k_iload_n X dX11_manLine_k5.2.1.1.1 2 rfl ?_
                refine k_iast [(cAI g a_fresh 311 (upd d_fresh2_21 (z_11 : Int32).toNatClampNeg 3)), (cO11_i1r1i10r1i2r5i2r12i3r4i2 h0 m_thrown a_tape m_taped m_size m_at2_108 m_end2_109 m_token2_115 m_whole2_116 m_nameSize2_113 m_fault2_111 m_place2_114 m_trouble a_letters m_failed2_110 m_hasHouse a_r a_fresh a_st a_undone a_kept m_undos m_images a_from a_begin a_motor a_change a_startFrame a_changeFrame a_lostAt a_blackAt a_slips a_leftArc a_died a_arcs m_bestSum m_nearest m_nearestTown a_there a_backAt a_sorted a_parts m_seed1 m_darkNow), (cAI g a_tape 900 d_tape), (cAI g a_letters 8 d_letters2_112)] X dX11_manLine_k5.2.1.1.2 0 rfl (iv_in iv_13 (zle_e rfl) (zle_l rfl)) rfl ?_
                have i_132 : z_11.toInt = 114 + 3 * z_5.toInt := by omega
                refine (fun hg : ∀ fa_130 : Nat → Int32, fa_130 = upd d_fresh2_21 (z_11 : Int32).toNatClampNeg 3 → RInv fa_130 → K16 d_fresh2_21 fa_130 → Wk p l e _ s m args below meth c _ A g _ _ _ [(cAI g a_fresh 311 fa_130), (cO11_i1r1i10r1i2r5i2r12i3r4i2 h0 m_thrown a_tape m_taped m_size m_at2_108 m_end2_109 m_token2_115 m_whole2_116 m_nameSize2_113 m_fault2_111 m_place2_114 m_trouble a_letters m_failed2_110 m_hasHouse a_r a_fresh a_st a_undone a_kept m_undos m_images a_from a_begin a_motor a_change a_startFrame a_changeFrame a_lostAt a_blackAt a_slips a_leftArc a_died a_arcs m_bestSum m_nearest m_nearestTown a_there a_backAt a_sorted a_parts m_seed1 m_darkNow), (cAI g a_tape 900 d_tape), (cAI g a_letters 8 d_letters2_112)] _ _ _ => hg _ rfl (w_fr_114_3 hp_31 i_132 (iv_w iv_7 (zle_e rfl) (zle_e rfl))) (k16_u (z := z_11) (by have := iv_13; omega))) (fun fa_130 eq_134 hR_131 hk_133 => ?_)
                have ek_135 : z_5 = fa_130 (11 : Int32).toNatClampNeg := ek_37.trans (hk_133 _ (by decide)).symm
                have hT_136 : TRI fa_130 := by have := iv_13; exact tri_z (z := z_11) eq_134 hT_38 hp_31 (by omega) (by omega) (by omega) (by omega) (by omega)
                refine k_aload_n X dX11_manLine_k5.2.1.2.1 4 rfl ?_
                refine k_get (ci := 11) X inlX11 rfl 16 (nlt_e rfl) dX11_manLine_k5.2.1.2.2 mw171 1 rfl rfl ?_
                refine k_iload_n X dX11_manLine_k5.2.2.1.1 3 rfl ?_
                refine k_iconst (v := 1) X dX11_manLine_k5.2.2.1.2 ic_1 ?_
                refine k_iadd X dX11_manLine_k5.2.2.2.1 ?_
                refine k_nm (fun z_137 ez_137 => ?_)
                have i_138 : z_137.toInt = z_11.toInt + 1 := in_add ez_137 iv_13 iq_1_1_1 (zle_e rfl) (zle_e rfl)
                have iv_139 : IV z_137 115 124 := iz1 i_138 iv_13 (zle_e rfl) (zle_e rfl)
                refine k_iload_n X dX11_manLine_k5.2.2.2.2 1 rfl ?_
                refine k_iast [(cAI g a_fresh 311 (upd fa_130 (z_137 : Int32).toNatClampNeg r_100)), (cO11_i1r1i10r1i2r5i2r12i3r4i2 h0 m_thrown a_tape m_taped m_size m_at2_108 m_end2_109 m_token2_115 m_whole2_116 m_nameSize2_113 m_fault2_111 m_place2_114 m_trouble a_letters m_failed2_110 m_hasHouse a_r a_fresh a_st a_undone a_kept m_undos m_images a_from a_begin a_motor a_change a_startFrame a_changeFrame a_lostAt a_blackAt a_slips a_leftArc a_died a_arcs m_bestSum m_nearest m_nearestTown a_there a_backAt a_sorted a_parts m_seed1 m_darkNow), (cAI g a_tape 900 d_tape), (cAI g a_letters 8 d_letters2_112)] X dX11_manLine_k6.1.1.1.1 0 rfl (iv_in iv_139 (zle_e rfl) (zle_l rfl)) rfl ?_
                have i_142 : z_137.toInt = 115 + 3 * z_5.toInt := by omega
                refine (fun hg : ∀ fa_140 : Nat → Int32, fa_140 = upd fa_130 (z_137 : Int32).toNatClampNeg r_100 → RInv fa_140 → K16 fa_130 fa_140 → Wk p l e _ s m args below meth c _ A g _ _ _ [(cAI g a_fresh 311 fa_140), (cO11_i1r1i10r1i2r5i2r12i3r4i2 h0 m_thrown a_tape m_taped m_size m_at2_108 m_end2_109 m_token2_115 m_whole2_116 m_nameSize2_113 m_fault2_111 m_place2_114 m_trouble a_letters m_failed2_110 m_hasHouse a_r a_fresh a_st a_undone a_kept m_undos m_images a_from a_begin a_motor a_change a_startFrame a_changeFrame a_lostAt a_blackAt a_slips a_leftArc a_died a_arcs m_bestSum m_nearest m_nearestTown a_there a_backAt a_sorted a_parts m_seed1 m_darkNow), (cAI g a_tape 900 d_tape), (cAI g a_letters 8 d_letters2_112)] _ _ _ => hg _ rfl (w_fr_115_3 hR_131 i_142 (iv_w iv_7 (zle_e rfl) (zle_e rfl))) (k16_u (z := z_137) (by have := iv_139; omega))) (fun fa_140 eq_144 hR_141 hk_143 => ?_)
                have ek_145 : z_5 = fa_140 (11 : Int32).toNatClampNeg := ek_135.trans (hk_143 _ (by decide)).symm
                have hT_146 : TRI fa_140 := by have := iv_139; exact tri_z (z := z_137) eq_144 hT_136 hR_131 (by omega) (by omega) (by omega) (by omega) (by omega)
                refine k_aload_n X dX11_manLine_k6.1.1.1.2 4 rfl ?_
                refine k_get (ci := 11) X inlX11 rfl 16 (nlt_e rfl) dX11_manLine_k6.1.1.2.1 mw171 1 rfl rfl ?_
                refine k_iload_n X dX11_manLine_k6.1.1.2.2 3 rfl ?_
                refine k_iconst (v := 2) X dX11_manLine_k6.1.2.1.1 ic_2 ?_
                refine k_iadd X dX11_manLine_k6.1.2.1.2 ?_
                refine k_nm (fun z_147 ez_147 => ?_)
                have i_148 : z_147.toInt = z_11.toInt + 2 := in_add ez_147 iv_13 iq_2_2_2 (zle_e rfl) (zle_e rfl)
                have iv_149 : IV z_147 116 125 := iz1 i_148 iv_13 (zle_e rfl) (zle_e rfl)
                refine k_iload X dX11_manLine_k6.1.2.2.1 0 rfl ?_
                refine k_iast [(cAI g a_fresh 311 (upd fa_140 (z_147 : Int32).toNatClampNeg r_117)), (cO11_i1r1i10r1i2r5i2r12i3r4i2 h0 m_thrown a_tape m_taped m_size m_at2_108 m_end2_109 m_token2_115 m_whole2_116 m_nameSize2_113 m_fault2_111 m_place2_114 m_trouble a_letters m_failed2_110 m_hasHouse a_r a_fresh a_st a_undone a_kept m_undos m_images a_from a_begin a_motor a_change a_startFrame a_changeFrame a_lostAt a_blackAt a_slips a_leftArc a_died a_arcs m_bestSum m_nearest m_nearestTown a_there a_backAt a_sorted a_parts m_seed1 m_darkNow), (cAI g a_tape 900 d_tape), (cAI g a_letters 8 d_letters2_112)] X dX11_manLine_k6.1.2.2.2 0 rfl (iv_in iv_149 (zle_e rfl) (zle_l rfl)) rfl ?_
                have i_152 : z_147.toInt = 116 + 3 * z_5.toInt := by omega
                refine (fun hg : ∀ fa_150 : Nat → Int32, fa_150 = upd fa_140 (z_147 : Int32).toNatClampNeg r_117 → RInv fa_150 → K16 fa_140 fa_150 → Wk p l e _ s m args below meth c _ A g _ _ _ [(cAI g a_fresh 311 fa_150), (cO11_i1r1i10r1i2r5i2r12i3r4i2 h0 m_thrown a_tape m_taped m_size m_at2_108 m_end2_109 m_token2_115 m_whole2_116 m_nameSize2_113 m_fault2_111 m_place2_114 m_trouble a_letters m_failed2_110 m_hasHouse a_r a_fresh a_st a_undone a_kept m_undos m_images a_from a_begin a_motor a_change a_startFrame a_changeFrame a_lostAt a_blackAt a_slips a_leftArc a_died a_arcs m_bestSum m_nearest m_nearestTown a_there a_backAt a_sorted a_parts m_seed1 m_darkNow), (cAI g a_tape 900 d_tape), (cAI g a_letters 8 d_letters2_112)] _ _ _ => hg _ rfl (w_rb_116_3 hR_141 i_152 (iv_w iv_7 (zle_e rfl) (zle_e rfl)) (iv_w iv_127 (zle_e rfl) (zle_e rfl))) (k16_u (z := z_147) (by have := iv_149; omega))) (fun fa_150 eq_154 hR_151 hk_153 => ?_)
                have ek_155 : z_5 = fa_150 (11 : Int32).toNatClampNeg := ek_145.trans (hk_153 _ (by decide)).symm
                have hT_156 : TRI fa_150 := by have := iv_149; exact tri_z (z := z_147) eq_154 hT_146 hR_141 (by omega) (by omega) (by omega) (by omega) (by omega)
                refine k_aload_n X dX11_manLine_k6.2.1.1.1 4 rfl ?_
                refine k_get (ci := 11) X inlX11 rfl 16 (nlt_e rfl) dX11_manLine_k6.2.1.1.2 mw171 1 rfl rfl ?_
                refine k_bipush (v := 11) X dX11_manLine_k6.2.1.2.1 bi_11 ?_
                refine k_dup2 X dX11_manLine_k6.2.1.2.2 rfl rfl ?_
                refine k_iald X dX11_manLine_k6.2.2.1.1 0 rfl (by unfold vp_in; decide) ?_
                refine k_to z_5 ek_155.symm ?_
                refine k_iconst (v := 1) X dX11_manLine_k6.2.2.1.2 ic_1 ?_
                refine k_iadd X dX11_manLine_k6.2.2.2.1 ?_
                refine k_nm (fun z_157 ez_157 => ?_)
                have i_158 : z_157.toInt = z_5.toInt + 1 := in_add ez_157 iv_7 iq_1_1_1 (zle_e rfl) (zle_e rfl)
                have iv_159 : IV z_157 1 4 := iz1 i_158 iv_7 (zle_e rfl) (zle_e rfl)
                refine k_iast [(cAI g a_fresh 311 (upd fa_150 (11 : Int32).toNatClampNeg z_157)), (cO11_i1r1i10r1i2r5i2r12i3r4i2 h0 m_thrown a_tape m_taped m_size m_at2_108 m_end2_109 m_token2_115 m_whole2_116 m_nameSize2_113 m_fault2_111 m_place2_114 m_trouble a_letters m_failed2_110 m_hasHouse a_r a_fresh a_st a_undone a_kept m_undos m_images a_from a_begin a_motor a_change a_startFrame a_changeFrame a_lostAt a_blackAt a_slips a_leftArc a_died a_arcs m_bestSum m_nearest m_nearestTown a_there a_backAt a_sorted a_parts m_seed1 m_darkNow), (cAI g a_tape 900 d_tape), (cAI g a_letters 8 d_letters2_112)] X dX11_manLine_k6.2.2.2.2 0 rfl (by unfold vp_in; decide) rfl ?_
                refine (fun hg : ∀ fa_160 : Nat → Int32, fa_160 = upd fa_150 (11 : Int32).toNatClampNeg z_157 → RInv fa_160 → Wk p l e _ s m args below meth c _ A g _ _ _ [(cAI g a_fresh 311 fa_160), (cO11_i1r1i10r1i2r5i2r12i3r4i2 h0 m_thrown a_tape m_taped m_size m_at2_108 m_end2_109 m_token2_115 m_whole2_116 m_nameSize2_113 m_fault2_111 m_place2_114 m_trouble a_letters m_failed2_110 m_hasHouse a_r a_fresh a_st a_undone a_kept m_undos m_images a_from a_begin a_motor a_change a_startFrame a_changeFrame a_lostAt a_blackAt a_slips a_leftArc a_died a_arcs m_bestSum m_nearest m_nearestTown a_there a_backAt a_sorted a_parts m_seed1 m_darkNow), (cAI g a_tape 900 d_tape), (cAI g a_letters 8 d_letters2_112)] _ _ _ => hg _ rfl (w_rb_11 hR_151 (iv_w iv_159 (zle_e rfl) (zle_e rfl)))) (fun fa_160 eq_163 hR_161 => ?_)
                have hT_164 : TRI fa_160 := by rw [eq_163]; exact tri_n (z := 11) hT_156 hR_151 (by decide) (by decide) (by decide) (by decide)
                exact k_vret X hr dX11_manLine_k7 (Nat.le_of_ble_eq_true rfl) (Nat.le_of_ble_eq_true rfl) [1, 2, 3, 0] (vnd_e rfl) rfl rfl ⟨m_at2_108, m_end2_109, m_failed2_110, m_fault2_111, fa_160, d_letters2_112, m_nameSize2_113, m_place2_114, m_token2_115, m_whole2_116, (iv_w iv_118 (zle_e rfl) (zle_e rfl)), (iv_w iv_129 (zle_e rfl) (zle_e rfl)), (iv_w iv_120 (zle_e rfl) (zle_e rfl)), hR_161, (by omega), hT_164, (Or.inl ⟨h_1, ⟨z_5, ez_5, ⟨z_8, ez_8, ⟨z_11, ez_11, ⟨z_14, ez_14, ⟨m_at2_17, m_end2_18, m_failed2_19, m_fault2_20, d_fresh2_21, d_letters2_22, m_nameSize2_23, m_place2_24, m_token2_25, m_whole2_26, hq_34, ⟨r_40, hq_42, (Or.inl ⟨h_44, ⟨r_47, hq_49, (Or.inl ⟨h_51, ⟨r_54, hq_56, (Or.inl ⟨h_58, ⟨r_61, hq_63, (Or.inr ⟨h_65, ⟨m_at2_83, m_end2_84, d_letters2_85, m_nameSize2_86, m_token2_87, m_whole2_88, hq_94, ⟨m_failed2_97, m_fault2_98, m_place2_99, r_100, hq_104, (Or.inl ⟨h_105, ⟨m_at2_108, m_end2_109, m_failed2_110, m_fault2_111, d_letters2_112, m_nameSize2_113, m_place2_114, m_token2_115, m_whole2_116, r_117, hq_123, (Or.inl ⟨h_128, ⟨fa_130, eq_134, ⟨z_137, ez_137, ⟨fa_140, eq_144, ⟨z_147, ez_147, ⟨fa_150, eq_154, ⟨z_157, ez_157, ⟨fa_160, eq_163, ⟨rfl, rfl, rfl, rfl, rfl, rfl, rfl, rfl, rfl, rfl⟩⟩⟩⟩⟩⟩⟩⟩⟩)⟩⟩)⟩⟩⟩)⟩⟩)⟩⟩)⟩⟩)⟩⟩⟩⟩⟩⟩⟩), hk_124, rfl⟩
              · skip
                have iv_165 : IV m_failed2_110 1 1 := iv_neL h_128 iv_119 iq_0_0_0 (zle_e rfl)
                exact k_vret X hr dX11_manLine_k5.1.2.1.1 (Nat.le_of_ble_eq_true rfl) (Nat.le_of_ble_eq_true rfl) [1, 2, 3, 0] (vnd_e rfl) rfl rfl ⟨m_at2_108, m_end2_109, m_failed2_110, m_fault2_111, d_fresh2_21, d_letters2_112, m_nameSize2_113, m_place2_114, m_token2_115, m_whole2_116, (iv_w iv_118 (zle_e rfl) (zle_e rfl)), (iv_w iv_165 (zle_e rfl) (zle_e rfl)), (iv_w iv_120 (zle_e rfl) (zle_e rfl)), hp_31, (by omega), hT_38, (Or.inl ⟨h_1, ⟨z_5, ez_5, ⟨z_8, ez_8, ⟨z_11, ez_11, ⟨z_14, ez_14, ⟨m_at2_17, m_end2_18, m_failed2_19, m_fault2_20, d_fresh2_21, d_letters2_22, m_nameSize2_23, m_place2_24, m_token2_25, m_whole2_26, hq_34, ⟨r_40, hq_42, (Or.inl ⟨h_44, ⟨r_47, hq_49, (Or.inl ⟨h_51, ⟨r_54, hq_56, (Or.inl ⟨h_58, ⟨r_61, hq_63, (Or.inr ⟨h_65, ⟨m_at2_83, m_end2_84, d_letters2_85, m_nameSize2_86, m_token2_87, m_whole2_88, hq_94, ⟨m_failed2_97, m_fault2_98, m_place2_99, r_100, hq_104, (Or.inl ⟨h_105, ⟨m_at2_108, m_end2_109, m_failed2_110, m_fault2_111, d_letters2_112, m_nameSize2_113, m_place2_114, m_token2_115, m_whole2_116, r_117, hq_123, (Or.inr ⟨h_128, ⟨rfl, rfl, rfl, rfl, rfl, rfl, rfl, rfl, rfl, rfl⟩⟩)⟩⟩)⟩⟩⟩)⟩⟩)⟩⟩)⟩⟩)⟩⟩⟩⟩⟩⟩⟩), hk_124, rfl⟩
            · skip
              have iv_166 : IV m_failed2_97 0 0 := iv_meet iv_101 (iv_e h_105 iq_0_0_0) (zle_o rfl) (zle_o rfl)
              refine k_aload_n X dX11_manLine_k4.2.1.1.2 3 rfl ?_
              refine k_callVV (n := 0) (As := []) (st := []) X [(cO11_i1r1i10r1i2r5i2r12i3r4i2 h0 m_thrown a_tape m_taped m_size m_at2_83 m_end2_84 m_token2_87 m_whole2_88 m_nameSize2_86 m_fault2_98 m_place2_99 m_trouble a_letters m_failed2_97 m_hasHouse a_r a_fresh a_st a_undone a_kept m_undos m_images a_from a_begin a_motor a_change a_startFrame a_changeFrame a_lostAt a_blackAt a_slips a_leftArc a_died a_arcs m_bestSum m_nearest m_nearestTown a_there a_backAt a_sorted a_parts m_seed1 m_darkNow), (cAI g a_tape 900 d_tape), (cAI g a_letters 8 d_letters2_85)] [(cAI g a_fresh 311 d_fresh2_21)] [1, 0, 2] [3] (m_nextX l g h0 m_thrown a_tape m_taped m_size m_at2_83 m_end2_84 m_token2_87 m_whole2_88 m_nameSize2_86 m_fault2_98 m_place2_99 m_trouble a_letters m_failed2_97 m_hasHouse a_r a_fresh a_st a_undone a_kept m_undos m_images a_from a_begin a_motor a_change a_startFrame a_changeFrame a_lostAt a_blackAt a_slips a_leftArc a_died a_arcs m_bestSum m_nearest m_nearestTown a_there a_backAt a_sorted a_parts m_seed1 m_darkNow d_tape d_letters2_85 (iv_w hv_m_size (zle_e rfl) (zle_e rfl)) (iv_w iv_90 (zle_e rfl) (zle_e rfl)) (iv_w iv_91 (zle_e rfl) (zle_e rfl))) dX11_manLine_k4.2.1.2.1 mw489 mw490 mw491 mw5 mw492 rfl 11 rfl rfl 0 _ rfl yk_yX11_next_0 rfl (Nat.le_of_ble_eq_true rfl) (Nat.le_of_ble_eq_true rfl) (Nat.le_of_ble_eq_true rfl) (Nat.le_of_ble_eq_true rfl) (Nat.le_of_ble_eq_true rfl) rfl rfl (vnd_e rfl) rfl (vnd_e rfl) (dsj_e rfl) ?_
              intro w zq
              refine exE6 zq ?_
              clear zq
              intro m_at2_167 m_end2_168 d_letters2_169 m_nameSize2_170 m_token2_171 m_whole2_172 iv_174 zq
              refine exA5 zq ?_
              clear zq
              intro iv_175 hq_176 hq_177 hq_178 hk_179 zq
              subst zq
              refine k_ws [(cAI g a_fresh 311 d_fresh2_21), (cO11_i1r1i10r1i2r5i2r12i3r4i2 h0 m_thrown a_tape m_taped m_size m_at2_167 m_end2_168 m_token2_171 m_whole2_172 m_nameSize2_170 m_fault2_98 m_place2_99 m_trouble a_letters m_failed2_97 m_hasHouse a_r a_fresh a_st a_undone a_kept m_undos m_images a_from a_begin a_motor a_change a_startFrame a_changeFrame a_lostAt a_blackAt a_slips a_leftArc a_died a_arcs m_bestSum m_nearest m_nearestTown a_there a_backAt a_sorted a_parts m_seed1 m_darkNow), (cAI g a_tape 900 d_tape), (cAI g a_letters 8 d_letters2_169)] rfl ?_
              refine k_aload_n X dX11_manLine_k4.2.1.2.2 3 rfl ?_
              refine k_ldcwS (tx := "slip") X dX11_manLine_k4.2.2.1.1 (by decide +kernel) (fun sr_180 hsr_180 => ?_)
              refine k_iconst (v := 0) X dX11_manLine_k4.2.2.1.2 ic_0 ?_
              refine k_bipush (v := 40) X dX11_manLine_k4.2.2.2.1 bi_40 ?_
              refine k_callVI (n := 3) (As := [.ref sr_180, .int 0, .int 40]) (st := []) X [(cO11_i1r1i10r1i2r5i2r12i3r4i2 h0 m_thrown a_tape m_taped m_size m_at2_167 m_end2_168 m_token2_171 m_whole2_172 m_nameSize2_170 m_fault2_98 m_place2_99 m_trouble a_letters m_failed2_97 m_hasHouse a_r a_fresh a_st a_undone a_kept m_undos m_images a_from a_begin a_motor a_change a_startFrame a_changeFrame a_lostAt a_blackAt a_slips a_leftArc a_died a_arcs m_bestSum m_nearest m_nearestTown a_there a_backAt a_sorted a_parts m_seed1 m_darkNow), (cAI g a_tape 900 d_tape), (cAI g a_letters 8 d_letters2_169)] [(cAI g a_fresh 311 d_fresh2_21)] [1, 2, 3] [0] (m_afterX l g h0 sr_180 0 40 m_thrown a_tape m_taped m_size m_at2_167 m_end2_168 m_token2_171 m_whole2_172 m_nameSize2_170 m_fault2_98 m_place2_99 m_trouble a_letters m_failed2_97 m_hasHouse a_r a_fresh a_st a_undone a_kept m_undos m_images a_from a_begin a_motor a_change a_startFrame a_changeFrame a_lostAt a_blackAt a_slips a_leftArc a_died a_arcs m_bestSum m_nearest m_nearestTown a_there a_backAt a_sorted a_parts m_seed1 m_darkNow d_tape d_letters2_169 ("slip") (iv_w hv_m_size (zle_e rfl) (zle_e rfl)) (iv_w iv_174 (zle_e rfl) (zle_e rfl)) (iv_w iv_175 (zle_e rfl) (zle_e rfl)) (iv_w iv_166 (zle_e rfl) (zle_e rfl)) hsr_180 hk_179) dX11_manLine_k4.2.2.2.2 mw523 mw524 mw525 mw5 mw526 rfl 11 rfl rfl 0 _ rfl yk_yX11_after_3 rfl (Nat.le_of_ble_eq_true rfl) (Nat.le_of_ble_eq_true rfl) (Nat.le_of_ble_eq_true rfl) (Nat.le_of_ble_eq_true rfl) (Nat.le_of_ble_eq_true rfl) rfl rfl (vnd_e rfl) rfl (vnd_e rfl) (dsj_e rfl) ?_
              intro r_190 w zq
              refine exE9 zq ?_
              clear zq
              intro m_at2_181 m_end2_182 m_failed2_183 m_fault2_184 d_letters2_185 m_nameSize2_186 m_place2_187 m_token2_188 m_whole2_189 iv_191 zq
              refine exA6 zq ?_
              clear zq
              intro iv_192 iv_193 hq_194 hq_195 hq_196 hk_197 zq
              subst zq
              refine k_ws [(cAI g a_fresh 311 d_fresh2_21), (cO11_i1r1i10r1i2r5i2r12i3r4i2 h0 m_thrown a_tape m_taped m_size m_at2_181 m_end2_182 m_token2_188 m_whole2_189 m_nameSize2_186 m_fault2_184 m_place2_187 m_trouble a_letters m_failed2_183 m_hasHouse a_r a_fresh a_st a_undone a_kept m_undos m_images a_from a_begin a_motor a_change a_startFrame a_changeFrame a_lostAt a_blackAt a_slips a_leftArc a_died a_arcs m_bestSum m_nearest m_nearestTown a_there a_backAt a_sorted a_parts m_seed1 m_darkNow), (cAI g a_tape 900 d_tape), (cAI g a_letters 8 d_letters2_185)] rfl ?_
              have e_198 : (0 : Int32).toInt = 0 := by decide
              have e_199 : (40 : Int32).toInt = 40 := by decide
              have iv_200 : IV r_190 0 40 := by have := iq_0_0_0; have := iq_40_40_40; rw [IV]; omega
              refine k_istore [(4, .int r_190), (3, .int r_100), (2, .int 3), (1, .int z_11), (0, .ref h0)] X dX11_manLine_k5.1.1.1.1 (nlt_e rfl) rfl ?_
              refine k_aload_n X dX11_manLine_k5.1.1.1.2 4 rfl ?_
              refine k_get (ci := 11) X inlX11 rfl 13 (nlt_e rfl) dX11_manLine_k5.1.1.2.1 mw469 1 rfl rfl ?_
              refine k_if_eq 165 X dX11_manLine_k5.1.1.2.2 (jp_e rfl) (fun h_201 => ?_) (fun h_201 => ?_)
              · skip
                have iv_202 : IV m_failed2_183 0 0 := iv_meet iv_192 (iv_e h_201 iq_0_0_0) (zle_o rfl) (zle_o rfl)
                refine k_aload_n X dX11_manLine_k5.1.2.1.2 4 rfl ?_
                refine k_get (ci := 11) X inlX11 rfl 16 (nlt_e rfl) dX11_manLine_k5.1.2.2.1 mw171 1 rfl rfl ?_
                refine k_iload_n X dX11_manLine_k5.1.2.2.2 3 rfl ?_
                refine k_iload_n X dX11_manLine_k5.2.1.1.1 2 rfl ?_
                refine k_iast [(cAI g a_fresh 311 (upd d_fresh2_21 (z_11 : Int32).toNatClampNeg 3)), (cO11_i1r1i10r1i2r5i2r12i3r4i2 h0 m_thrown a_tape m_taped m_size m_at2_181 m_end2_182 m_token2_188 m_whole2_189 m_nameSize2_186 m_fault2_184 m_place2_187 m_trouble a_letters m_failed2_183 m_hasHouse a_r a_fresh a_st a_undone a_kept m_undos m_images a_from a_begin a_motor a_change a_startFrame a_changeFrame a_lostAt a_blackAt a_slips a_leftArc a_died a_arcs m_bestSum m_nearest m_nearestTown a_there a_backAt a_sorted a_parts m_seed1 m_darkNow), (cAI g a_tape 900 d_tape), (cAI g a_letters 8 d_letters2_185)] X dX11_manLine_k5.2.1.1.2 0 rfl (iv_in iv_13 (zle_e rfl) (zle_l rfl)) rfl ?_
                have i_205 : z_11.toInt = 114 + 3 * z_5.toInt := by omega
                refine (fun hg : ∀ fa_203 : Nat → Int32, fa_203 = upd d_fresh2_21 (z_11 : Int32).toNatClampNeg 3 → RInv fa_203 → K16 d_fresh2_21 fa_203 → Wk p l e _ s m args below meth c _ A g _ _ _ [(cAI g a_fresh 311 fa_203), (cO11_i1r1i10r1i2r5i2r12i3r4i2 h0 m_thrown a_tape m_taped m_size m_at2_181 m_end2_182 m_token2_188 m_whole2_189 m_nameSize2_186 m_fault2_184 m_place2_187 m_trouble a_letters m_failed2_183 m_hasHouse a_r a_fresh a_st a_undone a_kept m_undos m_images a_from a_begin a_motor a_change a_startFrame a_changeFrame a_lostAt a_blackAt a_slips a_leftArc a_died a_arcs m_bestSum m_nearest m_nearestTown a_there a_backAt a_sorted a_parts m_seed1 m_darkNow), (cAI g a_tape 900 d_tape), (cAI g a_letters 8 d_letters2_185)] _ _ _ => hg _ rfl (w_fr_114_3 hp_31 i_205 (iv_w iv_7 (zle_e rfl) (zle_e rfl))) (k16_u (z := z_11) (by have := iv_13; omega))) (fun fa_203 eq_207 hR_204 hk_206 => ?_)
                have ek_208 : z_5 = fa_203 (11 : Int32).toNatClampNeg := ek_37.trans (hk_206 _ (by decide)).symm
                have hT_209 : TRI fa_203 := by have := iv_13; exact tri_z (z := z_11) eq_207 hT_38 hp_31 (by omega) (by omega) (by omega) (by omega) (by omega)
                refine k_aload_n X dX11_manLine_k5.2.1.2.1 4 rfl ?_
                refine k_get (ci := 11) X inlX11 rfl 16 (nlt_e rfl) dX11_manLine_k5.2.1.2.2 mw171 1 rfl rfl ?_
                refine k_iload_n X dX11_manLine_k5.2.2.1.1 3 rfl ?_
                refine k_iconst (v := 1) X dX11_manLine_k5.2.2.1.2 ic_1 ?_
                refine k_iadd X dX11_manLine_k5.2.2.2.1 ?_
                refine k_nm (fun z_210 ez_210 => ?_)
                have i_211 : z_210.toInt = z_11.toInt + 1 := in_add ez_210 iv_13 iq_1_1_1 (zle_e rfl) (zle_e rfl)
                have iv_212 : IV z_210 115 124 := iz1 i_211 iv_13 (zle_e rfl) (zle_e rfl)
                refine k_iload_n X dX11_manLine_k5.2.2.2.2 1 rfl ?_
                refine k_iast [(cAI g a_fresh 311 (upd fa_203 (z_210 : Int32).toNatClampNeg r_100)), (cO11_i1r1i10r1i2r5i2r12i3r4i2 h0 m_thrown a_tape m_taped m_size m_at2_181 m_end2_182 m_token2_188 m_whole2_189 m_nameSize2_186 m_fault2_184 m_place2_187 m_trouble a_letters m_failed2_183 m_hasHouse a_r a_fresh a_st a_undone a_kept m_undos m_images a_from a_begin a_motor a_change a_startFrame a_changeFrame a_lostAt a_blackAt a_slips a_leftArc a_died a_arcs m_bestSum m_nearest m_nearestTown a_there a_backAt a_sorted a_parts m_seed1 m_darkNow), (cAI g a_tape 900 d_tape), (cAI g a_letters 8 d_letters2_185)] X dX11_manLine_k6.1.1.1.1 0 rfl (iv_in iv_212 (zle_e rfl) (zle_l rfl)) rfl ?_
                have i_215 : z_210.toInt = 115 + 3 * z_5.toInt := by omega
                refine (fun hg : ∀ fa_213 : Nat → Int32, fa_213 = upd fa_203 (z_210 : Int32).toNatClampNeg r_100 → RInv fa_213 → K16 fa_203 fa_213 → Wk p l e _ s m args below meth c _ A g _ _ _ [(cAI g a_fresh 311 fa_213), (cO11_i1r1i10r1i2r5i2r12i3r4i2 h0 m_thrown a_tape m_taped m_size m_at2_181 m_end2_182 m_token2_188 m_whole2_189 m_nameSize2_186 m_fault2_184 m_place2_187 m_trouble a_letters m_failed2_183 m_hasHouse a_r a_fresh a_st a_undone a_kept m_undos m_images a_from a_begin a_motor a_change a_startFrame a_changeFrame a_lostAt a_blackAt a_slips a_leftArc a_died a_arcs m_bestSum m_nearest m_nearestTown a_there a_backAt a_sorted a_parts m_seed1 m_darkNow), (cAI g a_tape 900 d_tape), (cAI g a_letters 8 d_letters2_185)] _ _ _ => hg _ rfl (w_fr_115_3 hR_204 i_215 (iv_w iv_7 (zle_e rfl) (zle_e rfl))) (k16_u (z := z_210) (by have := iv_212; omega))) (fun fa_213 eq_217 hR_214 hk_216 => ?_)
                have ek_218 : z_5 = fa_213 (11 : Int32).toNatClampNeg := ek_208.trans (hk_216 _ (by decide)).symm
                have hT_219 : TRI fa_213 := by have := iv_212; exact tri_z (z := z_210) eq_217 hT_209 hR_204 (by omega) (by omega) (by omega) (by omega) (by omega)
                refine k_aload_n X dX11_manLine_k6.1.1.1.2 4 rfl ?_
                refine k_get (ci := 11) X inlX11 rfl 16 (nlt_e rfl) dX11_manLine_k6.1.1.2.1 mw171 1 rfl rfl ?_
                refine k_iload_n X dX11_manLine_k6.1.1.2.2 3 rfl ?_
                refine k_iconst (v := 2) X dX11_manLine_k6.1.2.1.1 ic_2 ?_
                refine k_iadd X dX11_manLine_k6.1.2.1.2 ?_
                refine k_nm (fun z_220 ez_220 => ?_)
                have i_221 : z_220.toInt = z_11.toInt + 2 := in_add ez_220 iv_13 iq_2_2_2 (zle_e rfl) (zle_e rfl)
                have iv_222 : IV z_220 116 125 := iz1 i_221 iv_13 (zle_e rfl) (zle_e rfl)
                refine k_iload X dX11_manLine_k6.1.2.2.1 0 rfl ?_
                refine k_iast [(cAI g a_fresh 311 (upd fa_213 (z_220 : Int32).toNatClampNeg r_190)), (cO11_i1r1i10r1i2r5i2r12i3r4i2 h0 m_thrown a_tape m_taped m_size m_at2_181 m_end2_182 m_token2_188 m_whole2_189 m_nameSize2_186 m_fault2_184 m_place2_187 m_trouble a_letters m_failed2_183 m_hasHouse a_r a_fresh a_st a_undone a_kept m_undos m_images a_from a_begin a_motor a_change a_startFrame a_changeFrame a_lostAt a_blackAt a_slips a_leftArc a_died a_arcs m_bestSum m_nearest m_nearestTown a_there a_backAt a_sorted a_parts m_seed1 m_darkNow), (cAI g a_tape 900 d_tape), (cAI g a_letters 8 d_letters2_185)] X dX11_manLine_k6.1.2.2.2 0 rfl (iv_in iv_222 (zle_e rfl) (zle_l rfl)) rfl ?_
                have i_225 : z_220.toInt = 116 + 3 * z_5.toInt := by omega
                refine (fun hg : ∀ fa_223 : Nat → Int32, fa_223 = upd fa_213 (z_220 : Int32).toNatClampNeg r_190 → RInv fa_223 → K16 fa_213 fa_223 → Wk p l e _ s m args below meth c _ A g _ _ _ [(cAI g a_fresh 311 fa_223), (cO11_i1r1i10r1i2r5i2r12i3r4i2 h0 m_thrown a_tape m_taped m_size m_at2_181 m_end2_182 m_token2_188 m_whole2_189 m_nameSize2_186 m_fault2_184 m_place2_187 m_trouble a_letters m_failed2_183 m_hasHouse a_r a_fresh a_st a_undone a_kept m_undos m_images a_from a_begin a_motor a_change a_startFrame a_changeFrame a_lostAt a_blackAt a_slips a_leftArc a_died a_arcs m_bestSum m_nearest m_nearestTown a_there a_backAt a_sorted a_parts m_seed1 m_darkNow), (cAI g a_tape 900 d_tape), (cAI g a_letters 8 d_letters2_185)] _ _ _ => hg _ rfl (w_rb_116_3 hR_214 i_225 (iv_w iv_7 (zle_e rfl) (zle_e rfl)) (iv_w iv_200 (zle_e rfl) (zle_e rfl))) (k16_u (z := z_220) (by have := iv_222; omega))) (fun fa_223 eq_227 hR_224 hk_226 => ?_)
                have ek_228 : z_5 = fa_223 (11 : Int32).toNatClampNeg := ek_218.trans (hk_226 _ (by decide)).symm
                have hT_229 : TRI fa_223 := by have := iv_222; exact tri_z (z := z_220) eq_227 hT_219 hR_214 (by omega) (by omega) (by omega) (by omega) (by omega)
                refine k_aload_n X dX11_manLine_k6.2.1.1.1 4 rfl ?_
                refine k_get (ci := 11) X inlX11 rfl 16 (nlt_e rfl) dX11_manLine_k6.2.1.1.2 mw171 1 rfl rfl ?_
                refine k_bipush (v := 11) X dX11_manLine_k6.2.1.2.1 bi_11 ?_
                refine k_dup2 X dX11_manLine_k6.2.1.2.2 rfl rfl ?_
                refine k_iald X dX11_manLine_k6.2.2.1.1 0 rfl (by unfold vp_in; decide) ?_
                refine k_to z_5 ek_228.symm ?_
                refine k_iconst (v := 1) X dX11_manLine_k6.2.2.1.2 ic_1 ?_
                refine k_iadd X dX11_manLine_k6.2.2.2.1 ?_
                refine k_nm (fun z_230 ez_230 => ?_)
                have i_231 : z_230.toInt = z_5.toInt + 1 := in_add ez_230 iv_7 iq_1_1_1 (zle_e rfl) (zle_e rfl)
                have iv_232 : IV z_230 1 4 := iz1 i_231 iv_7 (zle_e rfl) (zle_e rfl)
                refine k_iast [(cAI g a_fresh 311 (upd fa_223 (11 : Int32).toNatClampNeg z_230)), (cO11_i1r1i10r1i2r5i2r12i3r4i2 h0 m_thrown a_tape m_taped m_size m_at2_181 m_end2_182 m_token2_188 m_whole2_189 m_nameSize2_186 m_fault2_184 m_place2_187 m_trouble a_letters m_failed2_183 m_hasHouse a_r a_fresh a_st a_undone a_kept m_undos m_images a_from a_begin a_motor a_change a_startFrame a_changeFrame a_lostAt a_blackAt a_slips a_leftArc a_died a_arcs m_bestSum m_nearest m_nearestTown a_there a_backAt a_sorted a_parts m_seed1 m_darkNow), (cAI g a_tape 900 d_tape), (cAI g a_letters 8 d_letters2_185)] X dX11_manLine_k6.2.2.2.2 0 rfl (by unfold vp_in; decide) rfl ?_
                refine (fun hg : ∀ fa_233 : Nat → Int32, fa_233 = upd fa_223 (11 : Int32).toNatClampNeg z_230 → RInv fa_233 → Wk p l e _ s m args below meth c _ A g _ _ _ [(cAI g a_fresh 311 fa_233), (cO11_i1r1i10r1i2r5i2r12i3r4i2 h0 m_thrown a_tape m_taped m_size m_at2_181 m_end2_182 m_token2_188 m_whole2_189 m_nameSize2_186 m_fault2_184 m_place2_187 m_trouble a_letters m_failed2_183 m_hasHouse a_r a_fresh a_st a_undone a_kept m_undos m_images a_from a_begin a_motor a_change a_startFrame a_changeFrame a_lostAt a_blackAt a_slips a_leftArc a_died a_arcs m_bestSum m_nearest m_nearestTown a_there a_backAt a_sorted a_parts m_seed1 m_darkNow), (cAI g a_tape 900 d_tape), (cAI g a_letters 8 d_letters2_185)] _ _ _ => hg _ rfl (w_rb_11 hR_224 (iv_w iv_232 (zle_e rfl) (zle_e rfl)))) (fun fa_233 eq_236 hR_234 => ?_)
                have hT_237 : TRI fa_233 := by rw [eq_236]; exact tri_n (z := 11) hT_229 hR_224 (by decide) (by decide) (by decide) (by decide)
                exact k_vret X hr dX11_manLine_k7 (Nat.le_of_ble_eq_true rfl) (Nat.le_of_ble_eq_true rfl) [1, 2, 3, 0] (vnd_e rfl) rfl rfl ⟨m_at2_181, m_end2_182, m_failed2_183, m_fault2_184, fa_233, d_letters2_185, m_nameSize2_186, m_place2_187, m_token2_188, m_whole2_189, (iv_w iv_191 (zle_e rfl) (zle_e rfl)), (iv_w iv_202 (zle_e rfl) (zle_e rfl)), (iv_w iv_193 (zle_e rfl) (zle_e rfl)), hR_234, (by omega), hT_237, (Or.inl ⟨h_1, ⟨z_5, ez_5, ⟨z_8, ez_8, ⟨z_11, ez_11, ⟨z_14, ez_14, ⟨m_at2_17, m_end2_18, m_failed2_19, m_fault2_20, d_fresh2_21, d_letters2_22, m_nameSize2_23, m_place2_24, m_token2_25, m_whole2_26, hq_34, ⟨r_40, hq_42, (Or.inl ⟨h_44, ⟨r_47, hq_49, (Or.inl ⟨h_51, ⟨r_54, hq_56, (Or.inl ⟨h_58, ⟨r_61, hq_63, (Or.inr ⟨h_65, ⟨m_at2_83, m_end2_84, d_letters2_85, m_nameSize2_86, m_token2_87, m_whole2_88, hq_94, ⟨m_failed2_97, m_fault2_98, m_place2_99, r_100, hq_104, (Or.inr ⟨h_105, ⟨m_at2_167, m_end2_168, d_letters2_169, m_nameSize2_170, m_token2_171, m_whole2_172, hq_178, ⟨m_at2_181, m_end2_182, m_failed2_183, m_fault2_184, d_letters2_185, m_nameSize2_186, m_place2_187, m_token2_188, m_whole2_189, r_190, hq_196, (Or.inl ⟨h_201, ⟨fa_203, eq_207, ⟨z_210, ez_210, ⟨fa_213, eq_217, ⟨z_220, ez_220, ⟨fa_223, eq_227, ⟨z_230, ez_230, ⟨fa_233, eq_236, ⟨rfl, rfl, rfl, rfl, rfl, rfl, rfl, rfl, rfl, rfl⟩⟩⟩⟩⟩⟩⟩⟩⟩)⟩⟩⟩)⟩⟩⟩)⟩⟩)⟩⟩)⟩⟩)⟩⟩⟩⟩⟩⟩⟩), hk_197, rfl⟩
              · skip
                have iv_238 : IV m_failed2_183 1 1 := iv_neL h_201 iv_192 iq_0_0_0 (zle_e rfl)
                exact k_vret X hr dX11_manLine_k5.1.2.1.1 (Nat.le_of_ble_eq_true rfl) (Nat.le_of_ble_eq_true rfl) [1, 2, 3, 0] (vnd_e rfl) rfl rfl ⟨m_at2_181, m_end2_182, m_failed2_183, m_fault2_184, d_fresh2_21, d_letters2_185, m_nameSize2_186, m_place2_187, m_token2_188, m_whole2_189, (iv_w iv_191 (zle_e rfl) (zle_e rfl)), (iv_w iv_238 (zle_e rfl) (zle_e rfl)), (iv_w iv_193 (zle_e rfl) (zle_e rfl)), hp_31, (by omega), hT_38, (Or.inl ⟨h_1, ⟨z_5, ez_5, ⟨z_8, ez_8, ⟨z_11, ez_11, ⟨z_14, ez_14, ⟨m_at2_17, m_end2_18, m_failed2_19, m_fault2_20, d_fresh2_21, d_letters2_22, m_nameSize2_23, m_place2_24, m_token2_25, m_whole2_26, hq_34, ⟨r_40, hq_42, (Or.inl ⟨h_44, ⟨r_47, hq_49, (Or.inl ⟨h_51, ⟨r_54, hq_56, (Or.inl ⟨h_58, ⟨r_61, hq_63, (Or.inr ⟨h_65, ⟨m_at2_83, m_end2_84, d_letters2_85, m_nameSize2_86, m_token2_87, m_whole2_88, hq_94, ⟨m_failed2_97, m_fault2_98, m_place2_99, r_100, hq_104, (Or.inr ⟨h_105, ⟨m_at2_167, m_end2_168, d_letters2_169, m_nameSize2_170, m_token2_171, m_whole2_172, hq_178, ⟨m_at2_181, m_end2_182, m_failed2_183, m_fault2_184, d_letters2_185, m_nameSize2_186, m_place2_187, m_token2_188, m_whole2_189, r_190, hq_196, (Or.inr ⟨h_201, ⟨rfl, rfl, rfl, rfl, rfl, rfl, rfl, rfl, rfl, rfl⟩⟩)⟩⟩⟩)⟩⟩⟩)⟩⟩)⟩⟩)⟩⟩)⟩⟩⟩⟩⟩⟩⟩), hk_197, rfl⟩
        · skip
          have hc_239 := hk_57.resolve_left h_58
          have iv_240 : IV m_token2_25 2 2 := iv_meet (iv_any m_token2_25) hc_239.1 (zle_o rfl) (zle_o rfl)
          have hc_241 := hk_35 (iv_eq iv_240 iq_2_2_2)
          have iv_242 : IV m_nameSize2_23 0 8 := iv_meet iv_30 hc_241 (zle_o rfl) (zle_o rfl)
          have iv_243 : IV m_failed2_19 0 0 := iv_meet iv_29 hc_239.2 (zle_o rfl) (zle_o rfl)
          have iv_244 : IV r_54 1 1 := iv_neL h_58 iv_55 iq_0_0_0 (zle_e rfl)
          refine k_iconst (v := 2) X dX11_manLine_k2.1.2.1.2 ic_2 ?_
          refine k_goto 92 X dX11_manLine_k2.1.2.2.1 (jp_e rfl) ?_
          refine k_istore_n [(2, .int 2), (1, .int z_11), (0, .ref h0)] X dX11_manLine_k2.2.2.2.1 (nlt_e rfl) rfl ?_
          refine k_iload_n X dX11_manLine_k2.2.2.2.2 0 rfl ?_
          refine k_if_ge 106 X dX11_manLine_k3.1.1.1.1 (jp_e rfl) (fun _ => ?_) (fun h_245 => absurd (by decide) h_245)
          refine k_aload_n X dX11_manLine_k3.1.2.2.1 2 rfl ?_
          refine k_get (ci := 11) X inlX11 rfl 13 (nlt_e rfl) dX11_manLine_k3.1.2.2.2 mw469 2 rfl rfl ?_
          refine k_if_eq 114 X dX11_manLine_k3.2.1.1.1 (jp_e rfl) (fun h_246 => ?_) (fun h_246 => absurd (iv_eq iv_243 iq_0_0_0) h_246)
          refine k_aload_n X dX11_manLine_k3.2.1.2.1 2 rfl ?_
          refine k_callVV (n := 0) (As := []) (st := []) X [(cO11_i1r1i10r1i2r5i2r12i3r4i2 h0 m_thrown a_tape m_taped m_size m_at2_17 m_end2_18 m_token2_25 m_whole2_26 m_nameSize2_23 m_fault2_20 m_place2_24 m_trouble a_letters m_failed2_19 m_hasHouse a_r a_fresh a_st a_undone a_kept m_undos m_images a_from a_begin a_motor a_change a_startFrame a_changeFrame a_lostAt a_blackAt a_slips a_leftArc a_died a_arcs m_bestSum m_nearest m_nearestTown a_there a_backAt a_sorted a_parts m_seed1 m_darkNow), (cAI g a_tape 900 d_tape), (cAI g a_letters 8 d_letters2_22)] [(cAI g a_fresh 311 d_fresh2_21)] [2, 0, 3] [1] (m_nextX l g h0 m_thrown a_tape m_taped m_size m_at2_17 m_end2_18 m_token2_25 m_whole2_26 m_nameSize2_23 m_fault2_20 m_place2_24 m_trouble a_letters m_failed2_19 m_hasHouse a_r a_fresh a_st a_undone a_kept m_undos m_images a_from a_begin a_motor a_change a_startFrame a_changeFrame a_lostAt a_blackAt a_slips a_leftArc a_died a_arcs m_bestSum m_nearest m_nearestTown a_there a_backAt a_sorted a_parts m_seed1 m_darkNow d_tape d_letters2_22 (iv_w hv_m_size (zle_e rfl) (zle_e rfl)) (iv_w iv_28 (zle_e rfl) (zle_e rfl)) (iv_w iv_242 (zle_e rfl) (zle_e rfl))) dX11_manLine_k3.2.1.2.2 mw489 mw490 mw491 mw5 mw492 rfl 11 rfl rfl 0 _ rfl yk_yX11_next_0 rfl (Nat.le_of_ble_eq_true rfl) (Nat.le_of_ble_eq_true rfl) (Nat.le_of_ble_eq_true rfl) (Nat.le_of_ble_eq_true rfl) (Nat.le_of_ble_eq_true rfl) rfl rfl (vnd_e rfl) rfl (vnd_e rfl) (dsj_e rfl) ?_
          intro w zq
          refine exE6 zq ?_
          clear zq
          intro m_at2_247 m_end2_248 d_letters2_249 m_nameSize2_250 m_token2_251 m_whole2_252 iv_254 zq
          refine exA5 zq ?_
          clear zq
          intro iv_255 hq_256 hq_257 hq_258 hk_259 zq
          subst zq
          refine k_ws [(cAI g a_fresh 311 d_fresh2_21), (cO11_i1r1i10r1i2r5i2r12i3r4i2 h0 m_thrown a_tape m_taped m_size m_at2_247 m_end2_248 m_token2_251 m_whole2_252 m_nameSize2_250 m_fault2_20 m_place2_24 m_trouble a_letters m_failed2_19 m_hasHouse a_r a_fresh a_st a_undone a_kept m_undos m_images a_from a_begin a_motor a_change a_startFrame a_changeFrame a_lostAt a_blackAt a_slips a_leftArc a_died a_arcs m_bestSum m_nearest m_nearestTown a_there a_backAt a_sorted a_parts m_seed1 m_darkNow), (cAI g a_tape 900 d_tape), (cAI g a_letters 8 d_letters2_249)] rfl ?_
          refine k_iconst (v := 0) X dX11_manLine_k3.2.2.1.1 ic_0 ?_
          refine k_istore_n [(3, .int 0), (2, .int 2), (1, .int z_11), (0, .ref h0)] X dX11_manLine_k3.2.2.1.2 (nlt_e rfl) rfl ?_
          refine k_iload_n X dX11_manLine_k3.2.2.2.1 1 rfl ?_
          refine k_iconst (v := 3) X dX11_manLine_k3.2.2.2.2 ic_3 ?_
          refine k_ic_ne 145 X dX11_manLine_k4.1.1.1.1 (jp_e rfl) (fun _ => ?_) (fun h_260 => absurd h_260 (by decide))
          refine k_aload_n X dX11_manLine_k4.2.1.2.2 3 rfl ?_
          refine k_ldcwS (tx := "slip") X dX11_manLine_k4.2.2.1.1 (by decide +kernel) (fun sr_261 hsr_261 => ?_)
          refine k_iconst (v := 0) X dX11_manLine_k4.2.2.1.2 ic_0 ?_
          refine k_bipush (v := 40) X dX11_manLine_k4.2.2.2.1 bi_40 ?_
          refine k_callVI (n := 3) (As := [.ref sr_261, .int 0, .int 40]) (st := []) X [(cO11_i1r1i10r1i2r5i2r12i3r4i2 h0 m_thrown a_tape m_taped m_size m_at2_247 m_end2_248 m_token2_251 m_whole2_252 m_nameSize2_250 m_fault2_20 m_place2_24 m_trouble a_letters m_failed2_19 m_hasHouse a_r a_fresh a_st a_undone a_kept m_undos m_images a_from a_begin a_motor a_change a_startFrame a_changeFrame a_lostAt a_blackAt a_slips a_leftArc a_died a_arcs m_bestSum m_nearest m_nearestTown a_there a_backAt a_sorted a_parts m_seed1 m_darkNow), (cAI g a_tape 900 d_tape), (cAI g a_letters 8 d_letters2_249)] [(cAI g a_fresh 311 d_fresh2_21)] [1, 2, 3] [0] (m_afterX l g h0 sr_261 0 40 m_thrown a_tape m_taped m_size m_at2_247 m_end2_248 m_token2_251 m_whole2_252 m_nameSize2_250 m_fault2_20 m_place2_24 m_trouble a_letters m_failed2_19 m_hasHouse a_r a_fresh a_st a_undone a_kept m_undos m_images a_from a_begin a_motor a_change a_startFrame a_changeFrame a_lostAt a_blackAt a_slips a_leftArc a_died a_arcs m_bestSum m_nearest m_nearestTown a_there a_backAt a_sorted a_parts m_seed1 m_darkNow d_tape d_letters2_249 ("slip") (iv_w hv_m_size (zle_e rfl) (zle_e rfl)) (iv_w iv_254 (zle_e rfl) (zle_e rfl)) (iv_w iv_255 (zle_e rfl) (zle_e rfl)) (iv_w iv_243 (zle_e rfl) (zle_e rfl)) hsr_261 hk_259) dX11_manLine_k4.2.2.2.2 mw523 mw524 mw525 mw5 mw526 rfl 11 rfl rfl 0 _ rfl yk_yX11_after_3 rfl (Nat.le_of_ble_eq_true rfl) (Nat.le_of_ble_eq_true rfl) (Nat.le_of_ble_eq_true rfl) (Nat.le_of_ble_eq_true rfl) (Nat.le_of_ble_eq_true rfl) rfl rfl (vnd_e rfl) rfl (vnd_e rfl) (dsj_e rfl) ?_
          intro r_271 w zq
          refine exE9 zq ?_
          clear zq
          intro m_at2_262 m_end2_263 m_failed2_264 m_fault2_265 d_letters2_266 m_nameSize2_267 m_place2_268 m_token2_269 m_whole2_270 iv_272 zq
          refine exA6 zq ?_
          clear zq
          intro iv_273 iv_274 hq_275 hq_276 hq_277 hk_278 zq
          subst zq
          refine k_ws [(cAI g a_fresh 311 d_fresh2_21), (cO11_i1r1i10r1i2r5i2r12i3r4i2 h0 m_thrown a_tape m_taped m_size m_at2_262 m_end2_263 m_token2_269 m_whole2_270 m_nameSize2_267 m_fault2_265 m_place2_268 m_trouble a_letters m_failed2_264 m_hasHouse a_r a_fresh a_st a_undone a_kept m_undos m_images a_from a_begin a_motor a_change a_startFrame a_changeFrame a_lostAt a_blackAt a_slips a_leftArc a_died a_arcs m_bestSum m_nearest m_nearestTown a_there a_backAt a_sorted a_parts m_seed1 m_darkNow), (cAI g a_tape 900 d_tape), (cAI g a_letters 8 d_letters2_266)] rfl ?_
          have e_279 : (0 : Int32).toInt = 0 := by decide
          have e_280 : (40 : Int32).toInt = 40 := by decide
          have iv_281 : IV r_271 0 40 := by have := iq_0_0_0; have := iq_40_40_40; rw [IV]; omega
          refine k_istore [(4, .int r_271), (3, .int 0), (2, .int 2), (1, .int z_11), (0, .ref h0)] X dX11_manLine_k5.1.1.1.1 (nlt_e rfl) rfl ?_
          refine k_aload_n X dX11_manLine_k5.1.1.1.2 4 rfl ?_
          refine k_get (ci := 11) X inlX11 rfl 13 (nlt_e rfl) dX11_manLine_k5.1.1.2.1 mw469 1 rfl rfl ?_
          refine k_if_eq 165 X dX11_manLine_k5.1.1.2.2 (jp_e rfl) (fun h_282 => ?_) (fun h_282 => ?_)
          · skip
            have iv_283 : IV m_failed2_264 0 0 := iv_meet iv_273 (iv_e h_282 iq_0_0_0) (zle_o rfl) (zle_o rfl)
            refine k_aload_n X dX11_manLine_k5.1.2.1.2 4 rfl ?_
            refine k_get (ci := 11) X inlX11 rfl 16 (nlt_e rfl) dX11_manLine_k5.1.2.2.1 mw171 1 rfl rfl ?_
            refine k_iload_n X dX11_manLine_k5.1.2.2.2 3 rfl ?_
            refine k_iload_n X dX11_manLine_k5.2.1.1.1 2 rfl ?_
            refine k_iast [(cAI g a_fresh 311 (upd d_fresh2_21 (z_11 : Int32).toNatClampNeg 2)), (cO11_i1r1i10r1i2r5i2r12i3r4i2 h0 m_thrown a_tape m_taped m_size m_at2_262 m_end2_263 m_token2_269 m_whole2_270 m_nameSize2_267 m_fault2_265 m_place2_268 m_trouble a_letters m_failed2_264 m_hasHouse a_r a_fresh a_st a_undone a_kept m_undos m_images a_from a_begin a_motor a_change a_startFrame a_changeFrame a_lostAt a_blackAt a_slips a_leftArc a_died a_arcs m_bestSum m_nearest m_nearestTown a_there a_backAt a_sorted a_parts m_seed1 m_darkNow), (cAI g a_tape 900 d_tape), (cAI g a_letters 8 d_letters2_266)] X dX11_manLine_k5.2.1.1.2 0 rfl (iv_in iv_13 (zle_e rfl) (zle_l rfl)) rfl ?_
            have i_286 : z_11.toInt = 114 + 3 * z_5.toInt := by omega
            refine (fun hg : ∀ fa_284 : Nat → Int32, fa_284 = upd d_fresh2_21 (z_11 : Int32).toNatClampNeg 2 → RInv fa_284 → K16 d_fresh2_21 fa_284 → Wk p l e _ s m args below meth c _ A g _ _ _ [(cAI g a_fresh 311 fa_284), (cO11_i1r1i10r1i2r5i2r12i3r4i2 h0 m_thrown a_tape m_taped m_size m_at2_262 m_end2_263 m_token2_269 m_whole2_270 m_nameSize2_267 m_fault2_265 m_place2_268 m_trouble a_letters m_failed2_264 m_hasHouse a_r a_fresh a_st a_undone a_kept m_undos m_images a_from a_begin a_motor a_change a_startFrame a_changeFrame a_lostAt a_blackAt a_slips a_leftArc a_died a_arcs m_bestSum m_nearest m_nearestTown a_there a_backAt a_sorted a_parts m_seed1 m_darkNow), (cAI g a_tape 900 d_tape), (cAI g a_letters 8 d_letters2_266)] _ _ _ => hg _ rfl (w_fr_114_3 hp_31 i_286 (iv_w iv_7 (zle_e rfl) (zle_e rfl))) (k16_u (z := z_11) (by have := iv_13; omega))) (fun fa_284 eq_288 hR_285 hk_287 => ?_)
            have ek_289 : z_5 = fa_284 (11 : Int32).toNatClampNeg := ek_37.trans (hk_287 _ (by decide)).symm
            have hT_290 : TRI fa_284 := by have := iv_13; exact tri_z (z := z_11) eq_288 hT_38 hp_31 (by omega) (by omega) (by omega) (by omega) (by omega)
            refine k_aload_n X dX11_manLine_k5.2.1.2.1 4 rfl ?_
            refine k_get (ci := 11) X inlX11 rfl 16 (nlt_e rfl) dX11_manLine_k5.2.1.2.2 mw171 1 rfl rfl ?_
            refine k_iload_n X dX11_manLine_k5.2.2.1.1 3 rfl ?_
            refine k_iconst (v := 1) X dX11_manLine_k5.2.2.1.2 ic_1 ?_
            refine k_iadd X dX11_manLine_k5.2.2.2.1 ?_
            refine k_nm (fun z_291 ez_291 => ?_)
            have i_292 : z_291.toInt = z_11.toInt + 1 := in_add ez_291 iv_13 iq_1_1_1 (zle_e rfl) (zle_e rfl)
            have iv_293 : IV z_291 115 124 := iz1 i_292 iv_13 (zle_e rfl) (zle_e rfl)
            refine k_iload_n X dX11_manLine_k5.2.2.2.2 1 rfl ?_
            refine k_iast [(cAI g a_fresh 311 (upd fa_284 (z_291 : Int32).toNatClampNeg 0)), (cO11_i1r1i10r1i2r5i2r12i3r4i2 h0 m_thrown a_tape m_taped m_size m_at2_262 m_end2_263 m_token2_269 m_whole2_270 m_nameSize2_267 m_fault2_265 m_place2_268 m_trouble a_letters m_failed2_264 m_hasHouse a_r a_fresh a_st a_undone a_kept m_undos m_images a_from a_begin a_motor a_change a_startFrame a_changeFrame a_lostAt a_blackAt a_slips a_leftArc a_died a_arcs m_bestSum m_nearest m_nearestTown a_there a_backAt a_sorted a_parts m_seed1 m_darkNow), (cAI g a_tape 900 d_tape), (cAI g a_letters 8 d_letters2_266)] X dX11_manLine_k6.1.1.1.1 0 rfl (iv_in iv_293 (zle_e rfl) (zle_l rfl)) rfl ?_
            refine (fun hg : ∀ fa_294 : Nat → Int32, fa_294 = upd fa_284 (z_291 : Int32).toNatClampNeg 0 → RInv fa_294 → K16 fa_284 fa_294 → Wk p l e _ s m args below meth c _ A g _ _ _ [(cAI g a_fresh 311 fa_294), (cO11_i1r1i10r1i2r5i2r12i3r4i2 h0 m_thrown a_tape m_taped m_size m_at2_262 m_end2_263 m_token2_269 m_whole2_270 m_nameSize2_267 m_fault2_265 m_place2_268 m_trouble a_letters m_failed2_264 m_hasHouse a_r a_fresh a_st a_undone a_kept m_undos m_images a_from a_begin a_motor a_change a_startFrame a_changeFrame a_lostAt a_blackAt a_slips a_leftArc a_died a_arcs m_bestSum m_nearest m_nearestTown a_there a_backAt a_sorted a_parts m_seed1 m_darkNow), (cAI g a_tape 900 d_tape), (cAI g a_letters 8 d_letters2_266)] _ _ _ => hg _ rfl (w_zero hR_285) (k16_u (z := z_291) (by have := iv_293; omega))) (fun fa_294 eq_297 hR_295 hk_296 => ?_)
            have ek_298 : z_5 = fa_294 (11 : Int32).toNatClampNeg := ek_289.trans (hk_296 _ (by decide)).symm
            have hT_299 : TRI fa_294 := by have := iv_293; exact tri_z (z := z_291) eq_297 hT_290 hR_285 (by omega) (by omega) (by omega) (by omega) (by omega)
            refine k_aload_n X dX11_manLine_k6.1.1.1.2 4 rfl ?_
            refine k_get (ci := 11) X inlX11 rfl 16 (nlt_e rfl) dX11_manLine_k6.1.1.2.1 mw171 1 rfl rfl ?_
            refine k_iload_n X dX11_manLine_k6.1.1.2.2 3 rfl ?_
            refine k_iconst (v := 2) X dX11_manLine_k6.1.2.1.1 ic_2 ?_
            refine k_iadd X dX11_manLine_k6.1.2.1.2 ?_
            refine k_nm (fun z_300 ez_300 => ?_)
            have i_301 : z_300.toInt = z_11.toInt + 2 := in_add ez_300 iv_13 iq_2_2_2 (zle_e rfl) (zle_e rfl)
            have iv_302 : IV z_300 116 125 := iz1 i_301 iv_13 (zle_e rfl) (zle_e rfl)
            refine k_iload X dX11_manLine_k6.1.2.2.1 0 rfl ?_
            refine k_iast [(cAI g a_fresh 311 (upd fa_294 (z_300 : Int32).toNatClampNeg r_271)), (cO11_i1r1i10r1i2r5i2r12i3r4i2 h0 m_thrown a_tape m_taped m_size m_at2_262 m_end2_263 m_token2_269 m_whole2_270 m_nameSize2_267 m_fault2_265 m_place2_268 m_trouble a_letters m_failed2_264 m_hasHouse a_r a_fresh a_st a_undone a_kept m_undos m_images a_from a_begin a_motor a_change a_startFrame a_changeFrame a_lostAt a_blackAt a_slips a_leftArc a_died a_arcs m_bestSum m_nearest m_nearestTown a_there a_backAt a_sorted a_parts m_seed1 m_darkNow), (cAI g a_tape 900 d_tape), (cAI g a_letters 8 d_letters2_266)] X dX11_manLine_k6.1.2.2.2 0 rfl (iv_in iv_302 (zle_e rfl) (zle_l rfl)) rfl ?_
            have i_305 : z_300.toInt = 116 + 3 * z_5.toInt := by omega
            refine (fun hg : ∀ fa_303 : Nat → Int32, fa_303 = upd fa_294 (z_300 : Int32).toNatClampNeg r_271 → RInv fa_303 → K16 fa_294 fa_303 → Wk p l e _ s m args below meth c _ A g _ _ _ [(cAI g a_fresh 311 fa_303), (cO11_i1r1i10r1i2r5i2r12i3r4i2 h0 m_thrown a_tape m_taped m_size m_at2_262 m_end2_263 m_token2_269 m_whole2_270 m_nameSize2_267 m_fault2_265 m_place2_268 m_trouble a_letters m_failed2_264 m_hasHouse a_r a_fresh a_st a_undone a_kept m_undos m_images a_from a_begin a_motor a_change a_startFrame a_changeFrame a_lostAt a_blackAt a_slips a_leftArc a_died a_arcs m_bestSum m_nearest m_nearestTown a_there a_backAt a_sorted a_parts m_seed1 m_darkNow), (cAI g a_tape 900 d_tape), (cAI g a_letters 8 d_letters2_266)] _ _ _ => hg _ rfl (w_rb_116_3 hR_295 i_305 (iv_w iv_7 (zle_e rfl) (zle_e rfl)) (iv_w iv_281 (zle_e rfl) (zle_e rfl))) (k16_u (z := z_300) (by have := iv_302; omega))) (fun fa_303 eq_307 hR_304 hk_306 => ?_)
            have ek_308 : z_5 = fa_303 (11 : Int32).toNatClampNeg := ek_298.trans (hk_306 _ (by decide)).symm
            have hT_309 : TRI fa_303 := by have := iv_302; exact tri_z (z := z_300) eq_307 hT_299 hR_295 (by omega) (by omega) (by omega) (by omega) (by omega)
            refine k_aload_n X dX11_manLine_k6.2.1.1.1 4 rfl ?_
            refine k_get (ci := 11) X inlX11 rfl 16 (nlt_e rfl) dX11_manLine_k6.2.1.1.2 mw171 1 rfl rfl ?_
            refine k_bipush (v := 11) X dX11_manLine_k6.2.1.2.1 bi_11 ?_
            refine k_dup2 X dX11_manLine_k6.2.1.2.2 rfl rfl ?_
            refine k_iald X dX11_manLine_k6.2.2.1.1 0 rfl (by unfold vp_in; decide) ?_
            refine k_to z_5 ek_308.symm ?_
            refine k_iconst (v := 1) X dX11_manLine_k6.2.2.1.2 ic_1 ?_
            refine k_iadd X dX11_manLine_k6.2.2.2.1 ?_
            refine k_nm (fun z_310 ez_310 => ?_)
            have i_311 : z_310.toInt = z_5.toInt + 1 := in_add ez_310 iv_7 iq_1_1_1 (zle_e rfl) (zle_e rfl)
            have iv_312 : IV z_310 1 4 := iz1 i_311 iv_7 (zle_e rfl) (zle_e rfl)
            refine k_iast [(cAI g a_fresh 311 (upd fa_303 (11 : Int32).toNatClampNeg z_310)), (cO11_i1r1i10r1i2r5i2r12i3r4i2 h0 m_thrown a_tape m_taped m_size m_at2_262 m_end2_263 m_token2_269 m_whole2_270 m_nameSize2_267 m_fault2_265 m_place2_268 m_trouble a_letters m_failed2_264 m_hasHouse a_r a_fresh a_st a_undone a_kept m_undos m_images a_from a_begin a_motor a_change a_startFrame a_changeFrame a_lostAt a_blackAt a_slips a_leftArc a_died a_arcs m_bestSum m_nearest m_nearestTown a_there a_backAt a_sorted a_parts m_seed1 m_darkNow), (cAI g a_tape 900 d_tape), (cAI g a_letters 8 d_letters2_266)] X dX11_manLine_k6.2.2.2.2 0 rfl (by unfold vp_in; decide) rfl ?_
            refine (fun hg : ∀ fa_313 : Nat → Int32, fa_313 = upd fa_303 (11 : Int32).toNatClampNeg z_310 → RInv fa_313 → Wk p l e _ s m args below meth c _ A g _ _ _ [(cAI g a_fresh 311 fa_313), (cO11_i1r1i10r1i2r5i2r12i3r4i2 h0 m_thrown a_tape m_taped m_size m_at2_262 m_end2_263 m_token2_269 m_whole2_270 m_nameSize2_267 m_fault2_265 m_place2_268 m_trouble a_letters m_failed2_264 m_hasHouse a_r a_fresh a_st a_undone a_kept m_undos m_images a_from a_begin a_motor a_change a_startFrame a_changeFrame a_lostAt a_blackAt a_slips a_leftArc a_died a_arcs m_bestSum m_nearest m_nearestTown a_there a_backAt a_sorted a_parts m_seed1 m_darkNow), (cAI g a_tape 900 d_tape), (cAI g a_letters 8 d_letters2_266)] _ _ _ => hg _ rfl (w_rb_11 hR_304 (iv_w iv_312 (zle_e rfl) (zle_e rfl)))) (fun fa_313 eq_316 hR_314 => ?_)
            have hT_317 : TRI fa_313 := by rw [eq_316]; exact tri_n (z := 11) hT_309 hR_304 (by decide) (by decide) (by decide) (by decide)
            exact k_vret X hr dX11_manLine_k7 (Nat.le_of_ble_eq_true rfl) (Nat.le_of_ble_eq_true rfl) [1, 2, 3, 0] (vnd_e rfl) rfl rfl ⟨m_at2_262, m_end2_263, m_failed2_264, m_fault2_265, fa_313, d_letters2_266, m_nameSize2_267, m_place2_268, m_token2_269, m_whole2_270, (iv_w iv_272 (zle_e rfl) (zle_e rfl)), (iv_w iv_283 (zle_e rfl) (zle_e rfl)), (iv_w iv_274 (zle_e rfl) (zle_e rfl)), hR_314, (by omega), hT_317, (Or.inl ⟨h_1, ⟨z_5, ez_5, ⟨z_8, ez_8, ⟨z_11, ez_11, ⟨z_14, ez_14, ⟨m_at2_17, m_end2_18, m_failed2_19, m_fault2_20, d_fresh2_21, d_letters2_22, m_nameSize2_23, m_place2_24, m_token2_25, m_whole2_26, hq_34, ⟨r_40, hq_42, (Or.inl ⟨h_44, ⟨r_47, hq_49, (Or.inl ⟨h_51, ⟨r_54, hq_56, (Or.inr ⟨h_58, ⟨m_at2_247, m_end2_248, d_letters2_249, m_nameSize2_250, m_token2_251, m_whole2_252, hq_258, ⟨m_at2_262, m_end2_263, m_failed2_264, m_fault2_265, d_letters2_266, m_nameSize2_267, m_place2_268, m_token2_269, m_whole2_270, r_271, hq_277, (Or.inl ⟨h_282, ⟨fa_284, eq_288, ⟨z_291, ez_291, ⟨fa_294, eq_297, ⟨z_300, ez_300, ⟨fa_303, eq_307, ⟨z_310, ez_310, ⟨fa_313, eq_316, ⟨rfl, rfl, rfl, rfl, rfl, rfl, rfl, rfl, rfl, rfl⟩⟩⟩⟩⟩⟩⟩⟩⟩)⟩⟩⟩)⟩⟩)⟩⟩)⟩⟩⟩⟩⟩⟩⟩), hk_278, rfl⟩
          · skip
            have iv_318 : IV m_failed2_264 1 1 := iv_neL h_282 iv_273 iq_0_0_0 (zle_e rfl)
            exact k_vret X hr dX11_manLine_k5.1.2.1.1 (Nat.le_of_ble_eq_true rfl) (Nat.le_of_ble_eq_true rfl) [1, 2, 3, 0] (vnd_e rfl) rfl rfl ⟨m_at2_262, m_end2_263, m_failed2_264, m_fault2_265, d_fresh2_21, d_letters2_266, m_nameSize2_267, m_place2_268, m_token2_269, m_whole2_270, (iv_w iv_272 (zle_e rfl) (zle_e rfl)), (iv_w iv_318 (zle_e rfl) (zle_e rfl)), (iv_w iv_274 (zle_e rfl) (zle_e rfl)), hp_31, (by omega), hT_38, (Or.inl ⟨h_1, ⟨z_5, ez_5, ⟨z_8, ez_8, ⟨z_11, ez_11, ⟨z_14, ez_14, ⟨m_at2_17, m_end2_18, m_failed2_19, m_fault2_20, d_fresh2_21, d_letters2_22, m_nameSize2_23, m_place2_24, m_token2_25, m_whole2_26, hq_34, ⟨r_40, hq_42, (Or.inl ⟨h_44, ⟨r_47, hq_49, (Or.inl ⟨h_51, ⟨r_54, hq_56, (Or.inr ⟨h_58, ⟨m_at2_247, m_end2_248, d_letters2_249, m_nameSize2_250, m_token2_251, m_whole2_252, hq_258, ⟨m_at2_262, m_end2_263, m_failed2_264, m_fault2_265, d_letters2_266, m_nameSize2_267, m_place2_268, m_token2_269, m_whole2_270, r_271, hq_277, (Or.inr ⟨h_282, ⟨rfl, rfl, rfl, rfl, rfl, rfl, rfl, rfl, rfl, rfl⟩⟩)⟩⟩⟩)⟩⟩)⟩⟩)⟩⟩⟩⟩⟩⟩⟩), hk_278, rfl⟩
      · skip
        have hc_319 := hk_50.resolve_left h_51
        have iv_320 : IV m_token2_25 2 2 := iv_meet (iv_any m_token2_25) hc_319.1 (zle_o rfl) (zle_o rfl)
        have hc_321 := hk_35 (iv_eq iv_320 iq_2_2_2)
        have iv_322 : IV m_nameSize2_23 0 8 := iv_meet iv_30 hc_321 (zle_o rfl) (zle_o rfl)
        have iv_323 : IV m_failed2_19 0 0 := iv_meet iv_29 hc_319.2 (zle_o rfl) (zle_o rfl)
        have iv_324 : IV r_47 1 1 := iv_neL h_51 iv_48 iq_0_0_0 (zle_e rfl)
        refine k_iconst (v := 1) X dX11_manLine_k1.2.2.2.2 ic_1 ?_
        refine k_goto 92 X dX11_manLine_k2.1.1.1.1 (jp_e rfl) ?_
        refine k_istore_n [(2, .int 1), (1, .int z_11), (0, .ref h0)] X dX11_manLine_k2.2.2.2.1 (nlt_e rfl) rfl ?_
        refine k_iload_n X dX11_manLine_k2.2.2.2.2 0 rfl ?_
        refine k_if_ge 106 X dX11_manLine_k3.1.1.1.1 (jp_e rfl) (fun _ => ?_) (fun h_325 => absurd (by decide) h_325)
        refine k_aload_n X dX11_manLine_k3.1.2.2.1 2 rfl ?_
        refine k_get (ci := 11) X inlX11 rfl 13 (nlt_e rfl) dX11_manLine_k3.1.2.2.2 mw469 2 rfl rfl ?_
        refine k_if_eq 114 X dX11_manLine_k3.2.1.1.1 (jp_e rfl) (fun h_326 => ?_) (fun h_326 => absurd (iv_eq iv_323 iq_0_0_0) h_326)
        refine k_aload_n X dX11_manLine_k3.2.1.2.1 2 rfl ?_
        refine k_callVV (n := 0) (As := []) (st := []) X [(cO11_i1r1i10r1i2r5i2r12i3r4i2 h0 m_thrown a_tape m_taped m_size m_at2_17 m_end2_18 m_token2_25 m_whole2_26 m_nameSize2_23 m_fault2_20 m_place2_24 m_trouble a_letters m_failed2_19 m_hasHouse a_r a_fresh a_st a_undone a_kept m_undos m_images a_from a_begin a_motor a_change a_startFrame a_changeFrame a_lostAt a_blackAt a_slips a_leftArc a_died a_arcs m_bestSum m_nearest m_nearestTown a_there a_backAt a_sorted a_parts m_seed1 m_darkNow), (cAI g a_tape 900 d_tape), (cAI g a_letters 8 d_letters2_22)] [(cAI g a_fresh 311 d_fresh2_21)] [2, 0, 3] [1] (m_nextX l g h0 m_thrown a_tape m_taped m_size m_at2_17 m_end2_18 m_token2_25 m_whole2_26 m_nameSize2_23 m_fault2_20 m_place2_24 m_trouble a_letters m_failed2_19 m_hasHouse a_r a_fresh a_st a_undone a_kept m_undos m_images a_from a_begin a_motor a_change a_startFrame a_changeFrame a_lostAt a_blackAt a_slips a_leftArc a_died a_arcs m_bestSum m_nearest m_nearestTown a_there a_backAt a_sorted a_parts m_seed1 m_darkNow d_tape d_letters2_22 (iv_w hv_m_size (zle_e rfl) (zle_e rfl)) (iv_w iv_28 (zle_e rfl) (zle_e rfl)) (iv_w iv_322 (zle_e rfl) (zle_e rfl))) dX11_manLine_k3.2.1.2.2 mw489 mw490 mw491 mw5 mw492 rfl 11 rfl rfl 0 _ rfl yk_yX11_next_0 rfl (Nat.le_of_ble_eq_true rfl) (Nat.le_of_ble_eq_true rfl) (Nat.le_of_ble_eq_true rfl) (Nat.le_of_ble_eq_true rfl) (Nat.le_of_ble_eq_true rfl) rfl rfl (vnd_e rfl) rfl (vnd_e rfl) (dsj_e rfl) ?_
        intro w zq
        refine exE6 zq ?_
        clear zq
        intro m_at2_327 m_end2_328 d_letters2_329 m_nameSize2_330 m_token2_331 m_whole2_332 iv_334 zq
        refine exA5 zq ?_
        clear zq
        intro iv_335 hq_336 hq_337 hq_338 hk_339 zq
        subst zq
        refine k_ws [(cAI g a_fresh 311 d_fresh2_21), (cO11_i1r1i10r1i2r5i2r12i3r4i2 h0 m_thrown a_tape m_taped m_size m_at2_327 m_end2_328 m_token2_331 m_whole2_332 m_nameSize2_330 m_fault2_20 m_place2_24 m_trouble a_letters m_failed2_19 m_hasHouse a_r a_fresh a_st a_undone a_kept m_undos m_images a_from a_begin a_motor a_change a_startFrame a_changeFrame a_lostAt a_blackAt a_slips a_leftArc a_died a_arcs m_bestSum m_nearest m_nearestTown a_there a_backAt a_sorted a_parts m_seed1 m_darkNow), (cAI g a_tape 900 d_tape), (cAI g a_letters 8 d_letters2_329)] rfl ?_
        refine k_iconst (v := 0) X dX11_manLine_k3.2.2.1.1 ic_0 ?_
        refine k_istore_n [(3, .int 0), (2, .int 1), (1, .int z_11), (0, .ref h0)] X dX11_manLine_k3.2.2.1.2 (nlt_e rfl) rfl ?_
        refine k_iload_n X dX11_manLine_k3.2.2.2.1 1 rfl ?_
        refine k_iconst (v := 3) X dX11_manLine_k3.2.2.2.2 ic_3 ?_
        refine k_ic_ne 145 X dX11_manLine_k4.1.1.1.1 (jp_e rfl) (fun _ => ?_) (fun h_340 => absurd h_340 (by decide))
        refine k_aload_n X dX11_manLine_k4.2.1.2.2 3 rfl ?_
        refine k_ldcwS (tx := "slip") X dX11_manLine_k4.2.2.1.1 (by decide +kernel) (fun sr_341 hsr_341 => ?_)
        refine k_iconst (v := 0) X dX11_manLine_k4.2.2.1.2 ic_0 ?_
        refine k_bipush (v := 40) X dX11_manLine_k4.2.2.2.1 bi_40 ?_
        refine k_callVI (n := 3) (As := [.ref sr_341, .int 0, .int 40]) (st := []) X [(cO11_i1r1i10r1i2r5i2r12i3r4i2 h0 m_thrown a_tape m_taped m_size m_at2_327 m_end2_328 m_token2_331 m_whole2_332 m_nameSize2_330 m_fault2_20 m_place2_24 m_trouble a_letters m_failed2_19 m_hasHouse a_r a_fresh a_st a_undone a_kept m_undos m_images a_from a_begin a_motor a_change a_startFrame a_changeFrame a_lostAt a_blackAt a_slips a_leftArc a_died a_arcs m_bestSum m_nearest m_nearestTown a_there a_backAt a_sorted a_parts m_seed1 m_darkNow), (cAI g a_tape 900 d_tape), (cAI g a_letters 8 d_letters2_329)] [(cAI g a_fresh 311 d_fresh2_21)] [1, 2, 3] [0] (m_afterX l g h0 sr_341 0 40 m_thrown a_tape m_taped m_size m_at2_327 m_end2_328 m_token2_331 m_whole2_332 m_nameSize2_330 m_fault2_20 m_place2_24 m_trouble a_letters m_failed2_19 m_hasHouse a_r a_fresh a_st a_undone a_kept m_undos m_images a_from a_begin a_motor a_change a_startFrame a_changeFrame a_lostAt a_blackAt a_slips a_leftArc a_died a_arcs m_bestSum m_nearest m_nearestTown a_there a_backAt a_sorted a_parts m_seed1 m_darkNow d_tape d_letters2_329 ("slip") (iv_w hv_m_size (zle_e rfl) (zle_e rfl)) (iv_w iv_334 (zle_e rfl) (zle_e rfl)) (iv_w iv_335 (zle_e rfl) (zle_e rfl)) (iv_w iv_323 (zle_e rfl) (zle_e rfl)) hsr_341 hk_339) dX11_manLine_k4.2.2.2.2 mw523 mw524 mw525 mw5 mw526 rfl 11 rfl rfl 0 _ rfl yk_yX11_after_3 rfl (Nat.le_of_ble_eq_true rfl) (Nat.le_of_ble_eq_true rfl) (Nat.le_of_ble_eq_true rfl) (Nat.le_of_ble_eq_true rfl) (Nat.le_of_ble_eq_true rfl) rfl rfl (vnd_e rfl) rfl (vnd_e rfl) (dsj_e rfl) ?_
        intro r_351 w zq
        refine exE9 zq ?_
        clear zq
        intro m_at2_342 m_end2_343 m_failed2_344 m_fault2_345 d_letters2_346 m_nameSize2_347 m_place2_348 m_token2_349 m_whole2_350 iv_352 zq
        refine exA6 zq ?_
        clear zq
        intro iv_353 iv_354 hq_355 hq_356 hq_357 hk_358 zq
        subst zq
        refine k_ws [(cAI g a_fresh 311 d_fresh2_21), (cO11_i1r1i10r1i2r5i2r12i3r4i2 h0 m_thrown a_tape m_taped m_size m_at2_342 m_end2_343 m_token2_349 m_whole2_350 m_nameSize2_347 m_fault2_345 m_place2_348 m_trouble a_letters m_failed2_344 m_hasHouse a_r a_fresh a_st a_undone a_kept m_undos m_images a_from a_begin a_motor a_change a_startFrame a_changeFrame a_lostAt a_blackAt a_slips a_leftArc a_died a_arcs m_bestSum m_nearest m_nearestTown a_there a_backAt a_sorted a_parts m_seed1 m_darkNow), (cAI g a_tape 900 d_tape), (cAI g a_letters 8 d_letters2_346)] rfl ?_
        have e_359 : (0 : Int32).toInt = 0 := by decide
        have e_360 : (40 : Int32).toInt = 40 := by decide
        have iv_361 : IV r_351 0 40 := by have := iq_0_0_0; have := iq_40_40_40; rw [IV]; omega
        refine k_istore [(4, .int r_351), (3, .int 0), (2, .int 1), (1, .int z_11), (0, .ref h0)] X dX11_manLine_k5.1.1.1.1 (nlt_e rfl) rfl ?_
        refine k_aload_n X dX11_manLine_k5.1.1.1.2 4 rfl ?_
        refine k_get (ci := 11) X inlX11 rfl 13 (nlt_e rfl) dX11_manLine_k5.1.1.2.1 mw469 1 rfl rfl ?_
        refine k_if_eq 165 X dX11_manLine_k5.1.1.2.2 (jp_e rfl) (fun h_362 => ?_) (fun h_362 => ?_)
        · skip
          have iv_363 : IV m_failed2_344 0 0 := iv_meet iv_353 (iv_e h_362 iq_0_0_0) (zle_o rfl) (zle_o rfl)
          refine k_aload_n X dX11_manLine_k5.1.2.1.2 4 rfl ?_
          refine k_get (ci := 11) X inlX11 rfl 16 (nlt_e rfl) dX11_manLine_k5.1.2.2.1 mw171 1 rfl rfl ?_
          refine k_iload_n X dX11_manLine_k5.1.2.2.2 3 rfl ?_
          refine k_iload_n X dX11_manLine_k5.2.1.1.1 2 rfl ?_
          refine k_iast [(cAI g a_fresh 311 (upd d_fresh2_21 (z_11 : Int32).toNatClampNeg 1)), (cO11_i1r1i10r1i2r5i2r12i3r4i2 h0 m_thrown a_tape m_taped m_size m_at2_342 m_end2_343 m_token2_349 m_whole2_350 m_nameSize2_347 m_fault2_345 m_place2_348 m_trouble a_letters m_failed2_344 m_hasHouse a_r a_fresh a_st a_undone a_kept m_undos m_images a_from a_begin a_motor a_change a_startFrame a_changeFrame a_lostAt a_blackAt a_slips a_leftArc a_died a_arcs m_bestSum m_nearest m_nearestTown a_there a_backAt a_sorted a_parts m_seed1 m_darkNow), (cAI g a_tape 900 d_tape), (cAI g a_letters 8 d_letters2_346)] X dX11_manLine_k5.2.1.1.2 0 rfl (iv_in iv_13 (zle_e rfl) (zle_l rfl)) rfl ?_
          have i_366 : z_11.toInt = 114 + 3 * z_5.toInt := by omega
          refine (fun hg : ∀ fa_364 : Nat → Int32, fa_364 = upd d_fresh2_21 (z_11 : Int32).toNatClampNeg 1 → RInv fa_364 → K16 d_fresh2_21 fa_364 → Wk p l e _ s m args below meth c _ A g _ _ _ [(cAI g a_fresh 311 fa_364), (cO11_i1r1i10r1i2r5i2r12i3r4i2 h0 m_thrown a_tape m_taped m_size m_at2_342 m_end2_343 m_token2_349 m_whole2_350 m_nameSize2_347 m_fault2_345 m_place2_348 m_trouble a_letters m_failed2_344 m_hasHouse a_r a_fresh a_st a_undone a_kept m_undos m_images a_from a_begin a_motor a_change a_startFrame a_changeFrame a_lostAt a_blackAt a_slips a_leftArc a_died a_arcs m_bestSum m_nearest m_nearestTown a_there a_backAt a_sorted a_parts m_seed1 m_darkNow), (cAI g a_tape 900 d_tape), (cAI g a_letters 8 d_letters2_346)] _ _ _ => hg _ rfl (w_fr_114_3 hp_31 i_366 (iv_w iv_7 (zle_e rfl) (zle_e rfl))) (k16_u (z := z_11) (by have := iv_13; omega))) (fun fa_364 eq_368 hR_365 hk_367 => ?_)
          have ek_369 : z_5 = fa_364 (11 : Int32).toNatClampNeg := ek_37.trans (hk_367 _ (by decide)).symm
          have hT_370 : TRI fa_364 := by have := iv_13; exact tri_z (z := z_11) eq_368 hT_38 hp_31 (by omega) (by omega) (by omega) (by omega) (by omega)
          refine k_aload_n X dX11_manLine_k5.2.1.2.1 4 rfl ?_
          refine k_get (ci := 11) X inlX11 rfl 16 (nlt_e rfl) dX11_manLine_k5.2.1.2.2 mw171 1 rfl rfl ?_
          refine k_iload_n X dX11_manLine_k5.2.2.1.1 3 rfl ?_
          refine k_iconst (v := 1) X dX11_manLine_k5.2.2.1.2 ic_1 ?_
          refine k_iadd X dX11_manLine_k5.2.2.2.1 ?_
          refine k_nm (fun z_371 ez_371 => ?_)
          have i_372 : z_371.toInt = z_11.toInt + 1 := in_add ez_371 iv_13 iq_1_1_1 (zle_e rfl) (zle_e rfl)
          have iv_373 : IV z_371 115 124 := iz1 i_372 iv_13 (zle_e rfl) (zle_e rfl)
          refine k_iload_n X dX11_manLine_k5.2.2.2.2 1 rfl ?_
          refine k_iast [(cAI g a_fresh 311 (upd fa_364 (z_371 : Int32).toNatClampNeg 0)), (cO11_i1r1i10r1i2r5i2r12i3r4i2 h0 m_thrown a_tape m_taped m_size m_at2_342 m_end2_343 m_token2_349 m_whole2_350 m_nameSize2_347 m_fault2_345 m_place2_348 m_trouble a_letters m_failed2_344 m_hasHouse a_r a_fresh a_st a_undone a_kept m_undos m_images a_from a_begin a_motor a_change a_startFrame a_changeFrame a_lostAt a_blackAt a_slips a_leftArc a_died a_arcs m_bestSum m_nearest m_nearestTown a_there a_backAt a_sorted a_parts m_seed1 m_darkNow), (cAI g a_tape 900 d_tape), (cAI g a_letters 8 d_letters2_346)] X dX11_manLine_k6.1.1.1.1 0 rfl (iv_in iv_373 (zle_e rfl) (zle_l rfl)) rfl ?_
          refine (fun hg : ∀ fa_374 : Nat → Int32, fa_374 = upd fa_364 (z_371 : Int32).toNatClampNeg 0 → RInv fa_374 → K16 fa_364 fa_374 → Wk p l e _ s m args below meth c _ A g _ _ _ [(cAI g a_fresh 311 fa_374), (cO11_i1r1i10r1i2r5i2r12i3r4i2 h0 m_thrown a_tape m_taped m_size m_at2_342 m_end2_343 m_token2_349 m_whole2_350 m_nameSize2_347 m_fault2_345 m_place2_348 m_trouble a_letters m_failed2_344 m_hasHouse a_r a_fresh a_st a_undone a_kept m_undos m_images a_from a_begin a_motor a_change a_startFrame a_changeFrame a_lostAt a_blackAt a_slips a_leftArc a_died a_arcs m_bestSum m_nearest m_nearestTown a_there a_backAt a_sorted a_parts m_seed1 m_darkNow), (cAI g a_tape 900 d_tape), (cAI g a_letters 8 d_letters2_346)] _ _ _ => hg _ rfl (w_zero hR_365) (k16_u (z := z_371) (by have := iv_373; omega))) (fun fa_374 eq_377 hR_375 hk_376 => ?_)
          have ek_378 : z_5 = fa_374 (11 : Int32).toNatClampNeg := ek_369.trans (hk_376 _ (by decide)).symm
          have hT_379 : TRI fa_374 := by have := iv_373; exact tri_z (z := z_371) eq_377 hT_370 hR_365 (by omega) (by omega) (by omega) (by omega) (by omega)
          refine k_aload_n X dX11_manLine_k6.1.1.1.2 4 rfl ?_
          refine k_get (ci := 11) X inlX11 rfl 16 (nlt_e rfl) dX11_manLine_k6.1.1.2.1 mw171 1 rfl rfl ?_
          refine k_iload_n X dX11_manLine_k6.1.1.2.2 3 rfl ?_
          refine k_iconst (v := 2) X dX11_manLine_k6.1.2.1.1 ic_2 ?_
          refine k_iadd X dX11_manLine_k6.1.2.1.2 ?_
          refine k_nm (fun z_380 ez_380 => ?_)
          have i_381 : z_380.toInt = z_11.toInt + 2 := in_add ez_380 iv_13 iq_2_2_2 (zle_e rfl) (zle_e rfl)
          have iv_382 : IV z_380 116 125 := iz1 i_381 iv_13 (zle_e rfl) (zle_e rfl)
          refine k_iload X dX11_manLine_k6.1.2.2.1 0 rfl ?_
          refine k_iast [(cAI g a_fresh 311 (upd fa_374 (z_380 : Int32).toNatClampNeg r_351)), (cO11_i1r1i10r1i2r5i2r12i3r4i2 h0 m_thrown a_tape m_taped m_size m_at2_342 m_end2_343 m_token2_349 m_whole2_350 m_nameSize2_347 m_fault2_345 m_place2_348 m_trouble a_letters m_failed2_344 m_hasHouse a_r a_fresh a_st a_undone a_kept m_undos m_images a_from a_begin a_motor a_change a_startFrame a_changeFrame a_lostAt a_blackAt a_slips a_leftArc a_died a_arcs m_bestSum m_nearest m_nearestTown a_there a_backAt a_sorted a_parts m_seed1 m_darkNow), (cAI g a_tape 900 d_tape), (cAI g a_letters 8 d_letters2_346)] X dX11_manLine_k6.1.2.2.2 0 rfl (iv_in iv_382 (zle_e rfl) (zle_l rfl)) rfl ?_
          have i_385 : z_380.toInt = 116 + 3 * z_5.toInt := by omega
          refine (fun hg : ∀ fa_383 : Nat → Int32, fa_383 = upd fa_374 (z_380 : Int32).toNatClampNeg r_351 → RInv fa_383 → K16 fa_374 fa_383 → Wk p l e _ s m args below meth c _ A g _ _ _ [(cAI g a_fresh 311 fa_383), (cO11_i1r1i10r1i2r5i2r12i3r4i2 h0 m_thrown a_tape m_taped m_size m_at2_342 m_end2_343 m_token2_349 m_whole2_350 m_nameSize2_347 m_fault2_345 m_place2_348 m_trouble a_letters m_failed2_344 m_hasHouse a_r a_fresh a_st a_undone a_kept m_undos m_images a_from a_begin a_motor a_change a_startFrame a_changeFrame a_lostAt a_blackAt a_slips a_leftArc a_died a_arcs m_bestSum m_nearest m_nearestTown a_there a_backAt a_sorted a_parts m_seed1 m_darkNow), (cAI g a_tape 900 d_tape), (cAI g a_letters 8 d_letters2_346)] _ _ _ => hg _ rfl (w_rb_116_3 hR_375 i_385 (iv_w iv_7 (zle_e rfl) (zle_e rfl)) (iv_w iv_361 (zle_e rfl) (zle_e rfl))) (k16_u (z := z_380) (by have := iv_382; omega))) (fun fa_383 eq_387 hR_384 hk_386 => ?_)
          have ek_388 : z_5 = fa_383 (11 : Int32).toNatClampNeg := ek_378.trans (hk_386 _ (by decide)).symm
          have hT_389 : TRI fa_383 := by have := iv_382; exact tri_z (z := z_380) eq_387 hT_379 hR_375 (by omega) (by omega) (by omega) (by omega) (by omega)
          refine k_aload_n X dX11_manLine_k6.2.1.1.1 4 rfl ?_
          refine k_get (ci := 11) X inlX11 rfl 16 (nlt_e rfl) dX11_manLine_k6.2.1.1.2 mw171 1 rfl rfl ?_
          refine k_bipush (v := 11) X dX11_manLine_k6.2.1.2.1 bi_11 ?_
          refine k_dup2 X dX11_manLine_k6.2.1.2.2 rfl rfl ?_
          refine k_iald X dX11_manLine_k6.2.2.1.1 0 rfl (by unfold vp_in; decide) ?_
          refine k_to z_5 ek_388.symm ?_
          refine k_iconst (v := 1) X dX11_manLine_k6.2.2.1.2 ic_1 ?_
          refine k_iadd X dX11_manLine_k6.2.2.2.1 ?_
          refine k_nm (fun z_390 ez_390 => ?_)
          have i_391 : z_390.toInt = z_5.toInt + 1 := in_add ez_390 iv_7 iq_1_1_1 (zle_e rfl) (zle_e rfl)
          have iv_392 : IV z_390 1 4 := iz1 i_391 iv_7 (zle_e rfl) (zle_e rfl)
          refine k_iast [(cAI g a_fresh 311 (upd fa_383 (11 : Int32).toNatClampNeg z_390)), (cO11_i1r1i10r1i2r5i2r12i3r4i2 h0 m_thrown a_tape m_taped m_size m_at2_342 m_end2_343 m_token2_349 m_whole2_350 m_nameSize2_347 m_fault2_345 m_place2_348 m_trouble a_letters m_failed2_344 m_hasHouse a_r a_fresh a_st a_undone a_kept m_undos m_images a_from a_begin a_motor a_change a_startFrame a_changeFrame a_lostAt a_blackAt a_slips a_leftArc a_died a_arcs m_bestSum m_nearest m_nearestTown a_there a_backAt a_sorted a_parts m_seed1 m_darkNow), (cAI g a_tape 900 d_tape), (cAI g a_letters 8 d_letters2_346)] X dX11_manLine_k6.2.2.2.2 0 rfl (by unfold vp_in; decide) rfl ?_
          refine (fun hg : ∀ fa_393 : Nat → Int32, fa_393 = upd fa_383 (11 : Int32).toNatClampNeg z_390 → RInv fa_393 → Wk p l e _ s m args below meth c _ A g _ _ _ [(cAI g a_fresh 311 fa_393), (cO11_i1r1i10r1i2r5i2r12i3r4i2 h0 m_thrown a_tape m_taped m_size m_at2_342 m_end2_343 m_token2_349 m_whole2_350 m_nameSize2_347 m_fault2_345 m_place2_348 m_trouble a_letters m_failed2_344 m_hasHouse a_r a_fresh a_st a_undone a_kept m_undos m_images a_from a_begin a_motor a_change a_startFrame a_changeFrame a_lostAt a_blackAt a_slips a_leftArc a_died a_arcs m_bestSum m_nearest m_nearestTown a_there a_backAt a_sorted a_parts m_seed1 m_darkNow), (cAI g a_tape 900 d_tape), (cAI g a_letters 8 d_letters2_346)] _ _ _ => hg _ rfl (w_rb_11 hR_384 (iv_w iv_392 (zle_e rfl) (zle_e rfl)))) (fun fa_393 eq_396 hR_394 => ?_)
          have hT_397 : TRI fa_393 := by rw [eq_396]; exact tri_n (z := 11) hT_389 hR_384 (by decide) (by decide) (by decide) (by decide)
          exact k_vret X hr dX11_manLine_k7 (Nat.le_of_ble_eq_true rfl) (Nat.le_of_ble_eq_true rfl) [1, 2, 3, 0] (vnd_e rfl) rfl rfl ⟨m_at2_342, m_end2_343, m_failed2_344, m_fault2_345, fa_393, d_letters2_346, m_nameSize2_347, m_place2_348, m_token2_349, m_whole2_350, (iv_w iv_352 (zle_e rfl) (zle_e rfl)), (iv_w iv_363 (zle_e rfl) (zle_e rfl)), (iv_w iv_354 (zle_e rfl) (zle_e rfl)), hR_394, (by omega), hT_397, (Or.inl ⟨h_1, ⟨z_5, ez_5, ⟨z_8, ez_8, ⟨z_11, ez_11, ⟨z_14, ez_14, ⟨m_at2_17, m_end2_18, m_failed2_19, m_fault2_20, d_fresh2_21, d_letters2_22, m_nameSize2_23, m_place2_24, m_token2_25, m_whole2_26, hq_34, ⟨r_40, hq_42, (Or.inl ⟨h_44, ⟨r_47, hq_49, (Or.inr ⟨h_51, ⟨m_at2_327, m_end2_328, d_letters2_329, m_nameSize2_330, m_token2_331, m_whole2_332, hq_338, ⟨m_at2_342, m_end2_343, m_failed2_344, m_fault2_345, d_letters2_346, m_nameSize2_347, m_place2_348, m_token2_349, m_whole2_350, r_351, hq_357, (Or.inl ⟨h_362, ⟨fa_364, eq_368, ⟨z_371, ez_371, ⟨fa_374, eq_377, ⟨z_380, ez_380, ⟨fa_383, eq_387, ⟨z_390, ez_390, ⟨fa_393, eq_396, ⟨rfl, rfl, rfl, rfl, rfl, rfl, rfl, rfl, rfl, rfl⟩⟩⟩⟩⟩⟩⟩⟩⟩)⟩⟩⟩)⟩⟩)⟩⟩⟩⟩⟩⟩⟩), hk_358, rfl⟩
        · skip
          have iv_398 : IV m_failed2_344 1 1 := iv_neL h_362 iv_353 iq_0_0_0 (zle_e rfl)
          exact k_vret X hr dX11_manLine_k5.1.2.1.1 (Nat.le_of_ble_eq_true rfl) (Nat.le_of_ble_eq_true rfl) [1, 2, 3, 0] (vnd_e rfl) rfl rfl ⟨m_at2_342, m_end2_343, m_failed2_344, m_fault2_345, d_fresh2_21, d_letters2_346, m_nameSize2_347, m_place2_348, m_token2_349, m_whole2_350, (iv_w iv_352 (zle_e rfl) (zle_e rfl)), (iv_w iv_398 (zle_e rfl) (zle_e rfl)), (iv_w iv_354 (zle_e rfl) (zle_e rfl)), hp_31, (by omega), hT_38, (Or.inl ⟨h_1, ⟨z_5, ez_5, ⟨z_8, ez_8, ⟨z_11, ez_11, ⟨z_14, ez_14, ⟨m_at2_17, m_end2_18, m_failed2_19, m_fault2_20, d_fresh2_21, d_letters2_22, m_nameSize2_23, m_place2_24, m_token2_25, m_whole2_26, hq_34, ⟨r_40, hq_42, (Or.inl ⟨h_44, ⟨r_47, hq_49, (Or.inr ⟨h_51, ⟨m_at2_327, m_end2_328, d_letters2_329, m_nameSize2_330, m_token2_331, m_whole2_332, hq_338, ⟨m_at2_342, m_end2_343, m_failed2_344, m_fault2_345, d_letters2_346, m_nameSize2_347, m_place2_348, m_token2_349, m_whole2_350, r_351, hq_357, (Or.inr ⟨h_362, ⟨rfl, rfl, rfl, rfl, rfl, rfl, rfl, rfl, rfl, rfl⟩⟩)⟩⟩⟩)⟩⟩)⟩⟩⟩⟩⟩⟩⟩), hk_358, rfl⟩
    · skip
      have hc_399 := hk_43.resolve_left h_44
      have iv_400 : IV m_token2_25 2 2 := iv_meet (iv_any m_token2_25) hc_399.1 (zle_o rfl) (zle_o rfl)
      have hc_401 := hk_35 (iv_eq iv_400 iq_2_2_2)
      have iv_402 : IV m_nameSize2_23 0 8 := iv_meet iv_30 hc_401 (zle_o rfl) (zle_o rfl)
      have iv_403 : IV m_failed2_19 0 0 := iv_meet iv_29 hc_399.2 (zle_o rfl) (zle_o rfl)
      have iv_404 : IV r_40 1 1 := iv_neL h_44 iv_41 iq_0_0_0 (zle_e rfl)
      refine k_iconst (v := 0) X dX11_manLine_k1.2.1.1.2 ic_0 ?_
      refine k_goto 92 X dX11_manLine_k1.2.1.2.1 (jp_e rfl) ?_
      refine k_istore_n [(2, .int 0), (1, .int z_11), (0, .ref h0)] X dX11_manLine_k2.2.2.2.1 (nlt_e rfl) rfl ?_
      refine k_iload_n X dX11_manLine_k2.2.2.2.2 0 rfl ?_
      refine k_if_ge 106 X dX11_manLine_k3.1.1.1.1 (jp_e rfl) (fun _ => ?_) (fun h_405 => absurd (by decide) h_405)
      refine k_aload_n X dX11_manLine_k3.1.2.2.1 2 rfl ?_
      refine k_get (ci := 11) X inlX11 rfl 13 (nlt_e rfl) dX11_manLine_k3.1.2.2.2 mw469 2 rfl rfl ?_
      refine k_if_eq 114 X dX11_manLine_k3.2.1.1.1 (jp_e rfl) (fun h_406 => ?_) (fun h_406 => absurd (iv_eq iv_403 iq_0_0_0) h_406)
      refine k_aload_n X dX11_manLine_k3.2.1.2.1 2 rfl ?_
      refine k_callVV (n := 0) (As := []) (st := []) X [(cO11_i1r1i10r1i2r5i2r12i3r4i2 h0 m_thrown a_tape m_taped m_size m_at2_17 m_end2_18 m_token2_25 m_whole2_26 m_nameSize2_23 m_fault2_20 m_place2_24 m_trouble a_letters m_failed2_19 m_hasHouse a_r a_fresh a_st a_undone a_kept m_undos m_images a_from a_begin a_motor a_change a_startFrame a_changeFrame a_lostAt a_blackAt a_slips a_leftArc a_died a_arcs m_bestSum m_nearest m_nearestTown a_there a_backAt a_sorted a_parts m_seed1 m_darkNow), (cAI g a_tape 900 d_tape), (cAI g a_letters 8 d_letters2_22)] [(cAI g a_fresh 311 d_fresh2_21)] [2, 0, 3] [1] (m_nextX l g h0 m_thrown a_tape m_taped m_size m_at2_17 m_end2_18 m_token2_25 m_whole2_26 m_nameSize2_23 m_fault2_20 m_place2_24 m_trouble a_letters m_failed2_19 m_hasHouse a_r a_fresh a_st a_undone a_kept m_undos m_images a_from a_begin a_motor a_change a_startFrame a_changeFrame a_lostAt a_blackAt a_slips a_leftArc a_died a_arcs m_bestSum m_nearest m_nearestTown a_there a_backAt a_sorted a_parts m_seed1 m_darkNow d_tape d_letters2_22 (iv_w hv_m_size (zle_e rfl) (zle_e rfl)) (iv_w iv_28 (zle_e rfl) (zle_e rfl)) (iv_w iv_402 (zle_e rfl) (zle_e rfl))) dX11_manLine_k3.2.1.2.2 mw489 mw490 mw491 mw5 mw492 rfl 11 rfl rfl 0 _ rfl yk_yX11_next_0 rfl (Nat.le_of_ble_eq_true rfl) (Nat.le_of_ble_eq_true rfl) (Nat.le_of_ble_eq_true rfl) (Nat.le_of_ble_eq_true rfl) (Nat.le_of_ble_eq_true rfl) rfl rfl (vnd_e rfl) rfl (vnd_e rfl) (dsj_e rfl) ?_
      intro w zq
      refine exE6 zq ?_
      clear zq
      intro m_at2_407 m_end2_408 d_letters2_409 m_nameSize2_410 m_token2_411 m_whole2_412 iv_414 zq
      refine exA5 zq ?_
      clear zq
      intro iv_415 hq_416 hq_417 hq_418 hk_419 zq
      subst zq
      refine k_ws [(cAI g a_fresh 311 d_fresh2_21), (cO11_i1r1i10r1i2r5i2r12i3r4i2 h0 m_thrown a_tape m_taped m_size m_at2_407 m_end2_408 m_token2_411 m_whole2_412 m_nameSize2_410 m_fault2_20 m_place2_24 m_trouble a_letters m_failed2_19 m_hasHouse a_r a_fresh a_st a_undone a_kept m_undos m_images a_from a_begin a_motor a_change a_startFrame a_changeFrame a_lostAt a_blackAt a_slips a_leftArc a_died a_arcs m_bestSum m_nearest m_nearestTown a_there a_backAt a_sorted a_parts m_seed1 m_darkNow), (cAI g a_tape 900 d_tape), (cAI g a_letters 8 d_letters2_409)] rfl ?_
      refine k_iconst (v := 0) X dX11_manLine_k3.2.2.1.1 ic_0 ?_
      refine k_istore_n [(3, .int 0), (2, .int 0), (1, .int z_11), (0, .ref h0)] X dX11_manLine_k3.2.2.1.2 (nlt_e rfl) rfl ?_
      refine k_iload_n X dX11_manLine_k3.2.2.2.1 1 rfl ?_
      refine k_iconst (v := 3) X dX11_manLine_k3.2.2.2.2 ic_3 ?_
      refine k_ic_ne 145 X dX11_manLine_k4.1.1.1.1 (jp_e rfl) (fun _ => ?_) (fun h_420 => absurd h_420 (by decide))
      refine k_aload_n X dX11_manLine_k4.2.1.2.2 3 rfl ?_
      refine k_ldcwS (tx := "slip") X dX11_manLine_k4.2.2.1.1 (by decide +kernel) (fun sr_421 hsr_421 => ?_)
      refine k_iconst (v := 0) X dX11_manLine_k4.2.2.1.2 ic_0 ?_
      refine k_bipush (v := 40) X dX11_manLine_k4.2.2.2.1 bi_40 ?_
      refine k_callVI (n := 3) (As := [.ref sr_421, .int 0, .int 40]) (st := []) X [(cO11_i1r1i10r1i2r5i2r12i3r4i2 h0 m_thrown a_tape m_taped m_size m_at2_407 m_end2_408 m_token2_411 m_whole2_412 m_nameSize2_410 m_fault2_20 m_place2_24 m_trouble a_letters m_failed2_19 m_hasHouse a_r a_fresh a_st a_undone a_kept m_undos m_images a_from a_begin a_motor a_change a_startFrame a_changeFrame a_lostAt a_blackAt a_slips a_leftArc a_died a_arcs m_bestSum m_nearest m_nearestTown a_there a_backAt a_sorted a_parts m_seed1 m_darkNow), (cAI g a_tape 900 d_tape), (cAI g a_letters 8 d_letters2_409)] [(cAI g a_fresh 311 d_fresh2_21)] [1, 2, 3] [0] (m_afterX l g h0 sr_421 0 40 m_thrown a_tape m_taped m_size m_at2_407 m_end2_408 m_token2_411 m_whole2_412 m_nameSize2_410 m_fault2_20 m_place2_24 m_trouble a_letters m_failed2_19 m_hasHouse a_r a_fresh a_st a_undone a_kept m_undos m_images a_from a_begin a_motor a_change a_startFrame a_changeFrame a_lostAt a_blackAt a_slips a_leftArc a_died a_arcs m_bestSum m_nearest m_nearestTown a_there a_backAt a_sorted a_parts m_seed1 m_darkNow d_tape d_letters2_409 ("slip") (iv_w hv_m_size (zle_e rfl) (zle_e rfl)) (iv_w iv_414 (zle_e rfl) (zle_e rfl)) (iv_w iv_415 (zle_e rfl) (zle_e rfl)) (iv_w iv_403 (zle_e rfl) (zle_e rfl)) hsr_421 hk_419) dX11_manLine_k4.2.2.2.2 mw523 mw524 mw525 mw5 mw526 rfl 11 rfl rfl 0 _ rfl yk_yX11_after_3 rfl (Nat.le_of_ble_eq_true rfl) (Nat.le_of_ble_eq_true rfl) (Nat.le_of_ble_eq_true rfl) (Nat.le_of_ble_eq_true rfl) (Nat.le_of_ble_eq_true rfl) rfl rfl (vnd_e rfl) rfl (vnd_e rfl) (dsj_e rfl) ?_
      intro r_431 w zq
      refine exE9 zq ?_
      clear zq
      intro m_at2_422 m_end2_423 m_failed2_424 m_fault2_425 d_letters2_426 m_nameSize2_427 m_place2_428 m_token2_429 m_whole2_430 iv_432 zq
      refine exA6 zq ?_
      clear zq
      intro iv_433 iv_434 hq_435 hq_436 hq_437 hk_438 zq
      subst zq
      refine k_ws [(cAI g a_fresh 311 d_fresh2_21), (cO11_i1r1i10r1i2r5i2r12i3r4i2 h0 m_thrown a_tape m_taped m_size m_at2_422 m_end2_423 m_token2_429 m_whole2_430 m_nameSize2_427 m_fault2_425 m_place2_428 m_trouble a_letters m_failed2_424 m_hasHouse a_r a_fresh a_st a_undone a_kept m_undos m_images a_from a_begin a_motor a_change a_startFrame a_changeFrame a_lostAt a_blackAt a_slips a_leftArc a_died a_arcs m_bestSum m_nearest m_nearestTown a_there a_backAt a_sorted a_parts m_seed1 m_darkNow), (cAI g a_tape 900 d_tape), (cAI g a_letters 8 d_letters2_426)] rfl ?_
      have e_439 : (0 : Int32).toInt = 0 := by decide
      have e_440 : (40 : Int32).toInt = 40 := by decide
      have iv_441 : IV r_431 0 40 := by have := iq_0_0_0; have := iq_40_40_40; rw [IV]; omega
      refine k_istore [(4, .int r_431), (3, .int 0), (2, .int 0), (1, .int z_11), (0, .ref h0)] X dX11_manLine_k5.1.1.1.1 (nlt_e rfl) rfl ?_
      refine k_aload_n X dX11_manLine_k5.1.1.1.2 4 rfl ?_
      refine k_get (ci := 11) X inlX11 rfl 13 (nlt_e rfl) dX11_manLine_k5.1.1.2.1 mw469 1 rfl rfl ?_
      refine k_if_eq 165 X dX11_manLine_k5.1.1.2.2 (jp_e rfl) (fun h_442 => ?_) (fun h_442 => ?_)
      · skip
        have iv_443 : IV m_failed2_424 0 0 := iv_meet iv_433 (iv_e h_442 iq_0_0_0) (zle_o rfl) (zle_o rfl)
        refine k_aload_n X dX11_manLine_k5.1.2.1.2 4 rfl ?_
        refine k_get (ci := 11) X inlX11 rfl 16 (nlt_e rfl) dX11_manLine_k5.1.2.2.1 mw171 1 rfl rfl ?_
        refine k_iload_n X dX11_manLine_k5.1.2.2.2 3 rfl ?_
        refine k_iload_n X dX11_manLine_k5.2.1.1.1 2 rfl ?_
        refine k_iast [(cAI g a_fresh 311 (upd d_fresh2_21 (z_11 : Int32).toNatClampNeg 0)), (cO11_i1r1i10r1i2r5i2r12i3r4i2 h0 m_thrown a_tape m_taped m_size m_at2_422 m_end2_423 m_token2_429 m_whole2_430 m_nameSize2_427 m_fault2_425 m_place2_428 m_trouble a_letters m_failed2_424 m_hasHouse a_r a_fresh a_st a_undone a_kept m_undos m_images a_from a_begin a_motor a_change a_startFrame a_changeFrame a_lostAt a_blackAt a_slips a_leftArc a_died a_arcs m_bestSum m_nearest m_nearestTown a_there a_backAt a_sorted a_parts m_seed1 m_darkNow), (cAI g a_tape 900 d_tape), (cAI g a_letters 8 d_letters2_426)] X dX11_manLine_k5.2.1.1.2 0 rfl (iv_in iv_13 (zle_e rfl) (zle_l rfl)) rfl ?_
        refine (fun hg : ∀ fa_444 : Nat → Int32, fa_444 = upd d_fresh2_21 (z_11 : Int32).toNatClampNeg 0 → RInv fa_444 → K16 d_fresh2_21 fa_444 → Wk p l e _ s m args below meth c _ A g _ _ _ [(cAI g a_fresh 311 fa_444), (cO11_i1r1i10r1i2r5i2r12i3r4i2 h0 m_thrown a_tape m_taped m_size m_at2_422 m_end2_423 m_token2_429 m_whole2_430 m_nameSize2_427 m_fault2_425 m_place2_428 m_trouble a_letters m_failed2_424 m_hasHouse a_r a_fresh a_st a_undone a_kept m_undos m_images a_from a_begin a_motor a_change a_startFrame a_changeFrame a_lostAt a_blackAt a_slips a_leftArc a_died a_arcs m_bestSum m_nearest m_nearestTown a_there a_backAt a_sorted a_parts m_seed1 m_darkNow), (cAI g a_tape 900 d_tape), (cAI g a_letters 8 d_letters2_426)] _ _ _ => hg _ rfl (w_zero hp_31) (k16_u (z := z_11) (by have := iv_13; omega))) (fun fa_444 eq_447 hR_445 hk_446 => ?_)
        have ek_448 : z_5 = fa_444 (11 : Int32).toNatClampNeg := ek_37.trans (hk_446 _ (by decide)).symm
        have hT_449 : TRI fa_444 := by have := iv_13; exact tri_z (z := z_11) eq_447 hT_38 hp_31 (by omega) (by omega) (by omega) (by omega) (by omega)
        refine k_aload_n X dX11_manLine_k5.2.1.2.1 4 rfl ?_
        refine k_get (ci := 11) X inlX11 rfl 16 (nlt_e rfl) dX11_manLine_k5.2.1.2.2 mw171 1 rfl rfl ?_
        refine k_iload_n X dX11_manLine_k5.2.2.1.1 3 rfl ?_
        refine k_iconst (v := 1) X dX11_manLine_k5.2.2.1.2 ic_1 ?_
        refine k_iadd X dX11_manLine_k5.2.2.2.1 ?_
        refine k_nm (fun z_450 ez_450 => ?_)
        have i_451 : z_450.toInt = z_11.toInt + 1 := in_add ez_450 iv_13 iq_1_1_1 (zle_e rfl) (zle_e rfl)
        have iv_452 : IV z_450 115 124 := iz1 i_451 iv_13 (zle_e rfl) (zle_e rfl)
        refine k_iload_n X dX11_manLine_k5.2.2.2.2 1 rfl ?_
        refine k_iast [(cAI g a_fresh 311 (upd fa_444 (z_450 : Int32).toNatClampNeg 0)), (cO11_i1r1i10r1i2r5i2r12i3r4i2 h0 m_thrown a_tape m_taped m_size m_at2_422 m_end2_423 m_token2_429 m_whole2_430 m_nameSize2_427 m_fault2_425 m_place2_428 m_trouble a_letters m_failed2_424 m_hasHouse a_r a_fresh a_st a_undone a_kept m_undos m_images a_from a_begin a_motor a_change a_startFrame a_changeFrame a_lostAt a_blackAt a_slips a_leftArc a_died a_arcs m_bestSum m_nearest m_nearestTown a_there a_backAt a_sorted a_parts m_seed1 m_darkNow), (cAI g a_tape 900 d_tape), (cAI g a_letters 8 d_letters2_426)] X dX11_manLine_k6.1.1.1.1 0 rfl (iv_in iv_452 (zle_e rfl) (zle_l rfl)) rfl ?_
        refine (fun hg : ∀ fa_453 : Nat → Int32, fa_453 = upd fa_444 (z_450 : Int32).toNatClampNeg 0 → RInv fa_453 → K16 fa_444 fa_453 → Wk p l e _ s m args below meth c _ A g _ _ _ [(cAI g a_fresh 311 fa_453), (cO11_i1r1i10r1i2r5i2r12i3r4i2 h0 m_thrown a_tape m_taped m_size m_at2_422 m_end2_423 m_token2_429 m_whole2_430 m_nameSize2_427 m_fault2_425 m_place2_428 m_trouble a_letters m_failed2_424 m_hasHouse a_r a_fresh a_st a_undone a_kept m_undos m_images a_from a_begin a_motor a_change a_startFrame a_changeFrame a_lostAt a_blackAt a_slips a_leftArc a_died a_arcs m_bestSum m_nearest m_nearestTown a_there a_backAt a_sorted a_parts m_seed1 m_darkNow), (cAI g a_tape 900 d_tape), (cAI g a_letters 8 d_letters2_426)] _ _ _ => hg _ rfl (w_zero hR_445) (k16_u (z := z_450) (by have := iv_452; omega))) (fun fa_453 eq_456 hR_454 hk_455 => ?_)
        have ek_457 : z_5 = fa_453 (11 : Int32).toNatClampNeg := ek_448.trans (hk_455 _ (by decide)).symm
        have hT_458 : TRI fa_453 := by have := iv_452; exact tri_z (z := z_450) eq_456 hT_449 hR_445 (by omega) (by omega) (by omega) (by omega) (by omega)
        refine k_aload_n X dX11_manLine_k6.1.1.1.2 4 rfl ?_
        refine k_get (ci := 11) X inlX11 rfl 16 (nlt_e rfl) dX11_manLine_k6.1.1.2.1 mw171 1 rfl rfl ?_
        refine k_iload_n X dX11_manLine_k6.1.1.2.2 3 rfl ?_
        refine k_iconst (v := 2) X dX11_manLine_k6.1.2.1.1 ic_2 ?_
        refine k_iadd X dX11_manLine_k6.1.2.1.2 ?_
        refine k_nm (fun z_459 ez_459 => ?_)
        have i_460 : z_459.toInt = z_11.toInt + 2 := in_add ez_459 iv_13 iq_2_2_2 (zle_e rfl) (zle_e rfl)
        have iv_461 : IV z_459 116 125 := iz1 i_460 iv_13 (zle_e rfl) (zle_e rfl)
        refine k_iload X dX11_manLine_k6.1.2.2.1 0 rfl ?_
        refine k_iast [(cAI g a_fresh 311 (upd fa_453 (z_459 : Int32).toNatClampNeg r_431)), (cO11_i1r1i10r1i2r5i2r12i3r4i2 h0 m_thrown a_tape m_taped m_size m_at2_422 m_end2_423 m_token2_429 m_whole2_430 m_nameSize2_427 m_fault2_425 m_place2_428 m_trouble a_letters m_failed2_424 m_hasHouse a_r a_fresh a_st a_undone a_kept m_undos m_images a_from a_begin a_motor a_change a_startFrame a_changeFrame a_lostAt a_blackAt a_slips a_leftArc a_died a_arcs m_bestSum m_nearest m_nearestTown a_there a_backAt a_sorted a_parts m_seed1 m_darkNow), (cAI g a_tape 900 d_tape), (cAI g a_letters 8 d_letters2_426)] X dX11_manLine_k6.1.2.2.2 0 rfl (iv_in iv_461 (zle_e rfl) (zle_l rfl)) rfl ?_
        have i_464 : z_459.toInt = 116 + 3 * z_5.toInt := by omega
        refine (fun hg : ∀ fa_462 : Nat → Int32, fa_462 = upd fa_453 (z_459 : Int32).toNatClampNeg r_431 → RInv fa_462 → K16 fa_453 fa_462 → Wk p l e _ s m args below meth c _ A g _ _ _ [(cAI g a_fresh 311 fa_462), (cO11_i1r1i10r1i2r5i2r12i3r4i2 h0 m_thrown a_tape m_taped m_size m_at2_422 m_end2_423 m_token2_429 m_whole2_430 m_nameSize2_427 m_fault2_425 m_place2_428 m_trouble a_letters m_failed2_424 m_hasHouse a_r a_fresh a_st a_undone a_kept m_undos m_images a_from a_begin a_motor a_change a_startFrame a_changeFrame a_lostAt a_blackAt a_slips a_leftArc a_died a_arcs m_bestSum m_nearest m_nearestTown a_there a_backAt a_sorted a_parts m_seed1 m_darkNow), (cAI g a_tape 900 d_tape), (cAI g a_letters 8 d_letters2_426)] _ _ _ => hg _ rfl (w_rb_116_3 hR_454 i_464 (iv_w iv_7 (zle_e rfl) (zle_e rfl)) (iv_w iv_441 (zle_e rfl) (zle_e rfl))) (k16_u (z := z_459) (by have := iv_461; omega))) (fun fa_462 eq_466 hR_463 hk_465 => ?_)
        have ek_467 : z_5 = fa_462 (11 : Int32).toNatClampNeg := ek_457.trans (hk_465 _ (by decide)).symm
        have hT_468 : TRI fa_462 := by have := iv_461; exact tri_z (z := z_459) eq_466 hT_458 hR_454 (by omega) (by omega) (by omega) (by omega) (by omega)
        refine k_aload_n X dX11_manLine_k6.2.1.1.1 4 rfl ?_
        refine k_get (ci := 11) X inlX11 rfl 16 (nlt_e rfl) dX11_manLine_k6.2.1.1.2 mw171 1 rfl rfl ?_
        refine k_bipush (v := 11) X dX11_manLine_k6.2.1.2.1 bi_11 ?_
        refine k_dup2 X dX11_manLine_k6.2.1.2.2 rfl rfl ?_
        refine k_iald X dX11_manLine_k6.2.2.1.1 0 rfl (by unfold vp_in; decide) ?_
        refine k_to z_5 ek_467.symm ?_
        refine k_iconst (v := 1) X dX11_manLine_k6.2.2.1.2 ic_1 ?_
        refine k_iadd X dX11_manLine_k6.2.2.2.1 ?_
        refine k_nm (fun z_469 ez_469 => ?_)
        have i_470 : z_469.toInt = z_5.toInt + 1 := in_add ez_469 iv_7 iq_1_1_1 (zle_e rfl) (zle_e rfl)
        have iv_471 : IV z_469 1 4 := iz1 i_470 iv_7 (zle_e rfl) (zle_e rfl)
        refine k_iast [(cAI g a_fresh 311 (upd fa_462 (11 : Int32).toNatClampNeg z_469)), (cO11_i1r1i10r1i2r5i2r12i3r4i2 h0 m_thrown a_tape m_taped m_size m_at2_422 m_end2_423 m_token2_429 m_whole2_430 m_nameSize2_427 m_fault2_425 m_place2_428 m_trouble a_letters m_failed2_424 m_hasHouse a_r a_fresh a_st a_undone a_kept m_undos m_images a_from a_begin a_motor a_change a_startFrame a_changeFrame a_lostAt a_blackAt a_slips a_leftArc a_died a_arcs m_bestSum m_nearest m_nearestTown a_there a_backAt a_sorted a_parts m_seed1 m_darkNow), (cAI g a_tape 900 d_tape), (cAI g a_letters 8 d_letters2_426)] X dX11_manLine_k6.2.2.2.2 0 rfl (by unfold vp_in; decide) rfl ?_
        refine (fun hg : ∀ fa_472 : Nat → Int32, fa_472 = upd fa_462 (11 : Int32).toNatClampNeg z_469 → RInv fa_472 → Wk p l e _ s m args below meth c _ A g _ _ _ [(cAI g a_fresh 311 fa_472), (cO11_i1r1i10r1i2r5i2r12i3r4i2 h0 m_thrown a_tape m_taped m_size m_at2_422 m_end2_423 m_token2_429 m_whole2_430 m_nameSize2_427 m_fault2_425 m_place2_428 m_trouble a_letters m_failed2_424 m_hasHouse a_r a_fresh a_st a_undone a_kept m_undos m_images a_from a_begin a_motor a_change a_startFrame a_changeFrame a_lostAt a_blackAt a_slips a_leftArc a_died a_arcs m_bestSum m_nearest m_nearestTown a_there a_backAt a_sorted a_parts m_seed1 m_darkNow), (cAI g a_tape 900 d_tape), (cAI g a_letters 8 d_letters2_426)] _ _ _ => hg _ rfl (w_rb_11 hR_463 (iv_w iv_471 (zle_e rfl) (zle_e rfl)))) (fun fa_472 eq_475 hR_473 => ?_)
        have hT_476 : TRI fa_472 := by rw [eq_475]; exact tri_n (z := 11) hT_468 hR_463 (by decide) (by decide) (by decide) (by decide)
        exact k_vret X hr dX11_manLine_k7 (Nat.le_of_ble_eq_true rfl) (Nat.le_of_ble_eq_true rfl) [1, 2, 3, 0] (vnd_e rfl) rfl rfl ⟨m_at2_422, m_end2_423, m_failed2_424, m_fault2_425, fa_472, d_letters2_426, m_nameSize2_427, m_place2_428, m_token2_429, m_whole2_430, (iv_w iv_432 (zle_e rfl) (zle_e rfl)), (iv_w iv_443 (zle_e rfl) (zle_e rfl)), (iv_w iv_434 (zle_e rfl) (zle_e rfl)), hR_473, (by omega), hT_476, (Or.inl ⟨h_1, ⟨z_5, ez_5, ⟨z_8, ez_8, ⟨z_11, ez_11, ⟨z_14, ez_14, ⟨m_at2_17, m_end2_18, m_failed2_19, m_fault2_20, d_fresh2_21, d_letters2_22, m_nameSize2_23, m_place2_24, m_token2_25, m_whole2_26, hq_34, ⟨r_40, hq_42, (Or.inr ⟨h_44, ⟨m_at2_407, m_end2_408, d_letters2_409, m_nameSize2_410, m_token2_411, m_whole2_412, hq_418, ⟨m_at2_422, m_end2_423, m_failed2_424, m_fault2_425, d_letters2_426, m_nameSize2_427, m_place2_428, m_token2_429, m_whole2_430, r_431, hq_437, (Or.inl ⟨h_442, ⟨fa_444, eq_447, ⟨z_450, ez_450, ⟨fa_453, eq_456, ⟨z_459, ez_459, ⟨fa_462, eq_466, ⟨z_469, ez_469, ⟨fa_472, eq_475, ⟨rfl, rfl, rfl, rfl, rfl, rfl, rfl, rfl, rfl, rfl⟩⟩⟩⟩⟩⟩⟩⟩⟩)⟩⟩⟩)⟩⟩⟩⟩⟩⟩⟩), hk_438, rfl⟩
      · skip
        have iv_477 : IV m_failed2_424 1 1 := iv_neL h_442 iv_433 iq_0_0_0 (zle_e rfl)
        exact k_vret X hr dX11_manLine_k5.1.2.1.1 (Nat.le_of_ble_eq_true rfl) (Nat.le_of_ble_eq_true rfl) [1, 2, 3, 0] (vnd_e rfl) rfl rfl ⟨m_at2_422, m_end2_423, m_failed2_424, m_fault2_425, d_fresh2_21, d_letters2_426, m_nameSize2_427, m_place2_428, m_token2_429, m_whole2_430, (iv_w iv_432 (zle_e rfl) (zle_e rfl)), (iv_w iv_477 (zle_e rfl) (zle_e rfl)), (iv_w iv_434 (zle_e rfl) (zle_e rfl)), hp_31, (by omega), hT_38, (Or.inl ⟨h_1, ⟨z_5, ez_5, ⟨z_8, ez_8, ⟨z_11, ez_11, ⟨z_14, ez_14, ⟨m_at2_17, m_end2_18, m_failed2_19, m_fault2_20, d_fresh2_21, d_letters2_22, m_nameSize2_23, m_place2_24, m_token2_25, m_whole2_26, hq_34, ⟨r_40, hq_42, (Or.inr ⟨h_44, ⟨m_at2_407, m_end2_408, d_letters2_409, m_nameSize2_410, m_token2_411, m_whole2_412, hq_418, ⟨m_at2_422, m_end2_423, m_failed2_424, m_fault2_425, d_letters2_426, m_nameSize2_427, m_place2_428, m_token2_429, m_whole2_430, r_431, hq_437, (Or.inr ⟨h_442, ⟨rfl, rfl, rfl, rfl, rfl, rfl, rfl, rfl, rfl, rfl⟩⟩)⟩⟩⟩)⟩⟩⟩⟩⟩⟩⟩), hk_438, rfl⟩
  · skip
    have iv_478 : IV m_failed 1 1 := iv_neL h_1 hv_m_failed iq_0_0_0 (zle_e rfl)
    exact k_vret X hr dX11_manLine_k0.1.1.2.2 (Nat.le_of_ble_eq_true rfl) (Nat.le_of_ble_eq_true rfl) [0, 1, 2, 3] (vnd_e rfl) rfl rfl ⟨m_at, m_end, m_failed, m_fault, d_fresh, d_letters, m_nameSize, m_place, m_token, m_whole, (iv_w hv_m_end (zle_e rfl) (zle_e rfl)), (iv_w iv_478 (zle_e rfl) (zle_e rfl)), (iv_w hv_m_nameSize (zle_e rfl) (zle_e rfl)), hp_d_fresh, (by omega), hr_0, (Or.inr ⟨h_1, ⟨rfl, rfl, rfl, rfl, rfl, rfl, rfl, rfl, rfl, rfl⟩⟩), hc_1, rfl⟩


set_option maxHeartbeats 4000000 in
set_option maxRecDepth 100000 in
theorem m_scratchLineX (l : Launch) (g : Gx) (h0 : Nat) (m_thrown : Int32) (a_tape : Nat) (m_taped : Int32) (m_size : Int32) (m_at : Int32) (m_end : Int32) (m_token : Int32) (m_whole : Int32) (m_nameSize : Int32) (m_fault : Int32) (m_place : Int32) (m_trouble : Int32) (a_letters : Nat) (m_failed : Int32) (m_hasHouse : Int32) (a_r : Nat) (a_fresh : Nat) (a_st : Nat) (a_undone : Nat) (a_kept : Nat) (m_undos : Int32) (m_images : Int32) (a_from : Nat) (a_begin : Nat) (a_motor : Nat) (a_change : Nat) (a_startFrame : Nat) (a_changeFrame : Nat) (a_lostAt : Nat) (a_blackAt : Nat) (a_slips : Nat) (a_leftArc : Nat) (a_died : Nat) (a_arcs : Nat) (m_bestSum : Int32) (m_nearest : Int32) (m_nearestTown : Int32) (a_there : Nat) (a_backAt : Nat) (a_sorted : Nat) (a_parts : Nat) (m_seed1 : Int32) (m_darkNow : Int32) (d_tape : Nat → Int32) (d_letters : Nat → Int32) (d_fresh : Nat → Int32) (hv_m_size : IV m_size 0 900) (hv_m_end : IV m_end 0 900) (hv_m_nameSize : IV m_nameSize 0 900) (hv_m_failed : IV m_failed 0 1) (hp_d_fresh : RInv d_fresh) (hr_0 : TRI d_fresh) (hc_0 : m_failed = 1 ∨ ((d_fresh 14).toInt ≤ 5)) (hc_1 : m_token = 2 → IV m_nameSize 0 8) : cV l g yX11_scratchLine cX11_scratchLine 2 8 173 0 0 [.ref h0] [(cO11_i1r1i10r1i2r5i2r12i3r4i2 h0 m_thrown a_tape m_taped m_size m_at m_end m_token m_whole m_nameSize m_fault m_place m_trouble a_letters m_failed m_hasHouse a_r a_fresh a_st a_undone a_kept m_undos m_images a_from a_begin a_motor a_change a_startFrame a_changeFrame a_lostAt a_blackAt a_slips a_leftArc a_died a_arcs m_bestSum m_nearest m_nearestTown a_there a_backAt a_sorted a_parts m_seed1 m_darkNow), (cAI g a_tape 900 d_tape), (cAI g a_letters 8 d_letters), (cAI g a_fresh 311 d_fresh)] (fun w => ∃ (m_at2 : Int32) (m_end2 : Int32) (m_failed2 : Int32) (m_fault2 : Int32) (d_fresh2 : Nat → Int32) (d_letters2 : Nat → Int32) (m_nameSize2 : Int32) (m_place2 : Int32) (m_token2 : Int32) (m_whole2 : Int32), IV m_end2 0 900 ∧ IV m_failed2 0 1 ∧ IV m_nameSize2 0 900 ∧ RInv d_fresh2 ∧ (m_end.toInt ≤ m_end2.toInt) ∧ (TRI d_fresh2) ∧ (R_m_scratchLineX m_size m_at m_end m_token m_whole m_nameSize m_fault m_place m_failed d_tape d_letters d_fresh m_at2 m_end2 m_failed2 m_fault2 d_fresh2 d_letters2 m_nameSize2 m_place2 m_token2 m_whole2) ∧ (m_token2 = 2 → IV m_nameSize2 0 8) ∧ w = [(cO11_i1r1i10r1i2r5i2r12i3r4i2 h0 m_thrown a_tape m_taped m_size m_at2 m_end2 m_token2 m_whole2 m_nameSize2 m_fault2 m_place2 m_trouble a_letters m_failed2 m_hasHouse a_r a_fresh a_st a_undone a_kept m_undos m_images a_from a_begin a_motor a_change a_startFrame a_changeFrame a_lostAt a_blackAt a_slips a_leftArc a_died a_arcs m_bestSum m_nearest m_nearestTown a_there a_backAt a_sorted a_parts m_seed1 m_darkNow), (cAI g a_tape 900 d_tape), (cAI g a_letters 8 d_letters2), (cAI g a_fresh 311 d_fresh2)]) := by
  refine cV.of (by decide) (Nat.le_of_ble_eq_true rfl) ?_
  intro p e s m args below meth c A X hr hi
  refine k_lveq [(0, .ref h0)] rfl ?_
  refine k_aload_n X dX11_scratchLine_k0.1.1.1.1 0 rfl ?_
  refine k_get (ci := 11) X inlX11 rfl 13 (nlt_e rfl) dX11_scratchLine_k0.1.1.1.2 mw469 0 rfl rfl ?_
  refine k_if_eq 8 X dX11_scratchLine_k0.1.1.2.1 (jp_e rfl) (fun h_1 => ?_) (fun h_1 => ?_)
  · skip
    have iv_2 : IV m_failed 0 0 := iv_meet hv_m_failed (iv_e h_1 iq_0_0_0) (zle_o rfl) (zle_o rfl)
    have hc_3 := hc_0.resolve_left (fun q => iv_eqN q iv_2 iq_1_1_1 (by decide))
    have j_4 : (d_fresh 14).toInt ≤ 5 := hc_3
    refine k_sipush (v := 155) X dX11_scratchLine_k0.1.2.1.1 si_155 ?_
    refine k_iconst (v := 2) X dX11_scratchLine_k0.1.2.1.2 ic_2 ?_
    refine k_aload_n X dX11_scratchLine_k0.1.2.2.1 0 rfl ?_
    refine k_get (ci := 11) X inlX11 rfl 16 (nlt_e rfl) dX11_scratchLine_k0.1.2.2.2 mw171 0 rfl rfl ?_
    refine k_bipush (v := 14) X dX11_scratchLine_k0.2.1.1.1 bi_14 ?_
    refine k_iald X dX11_scratchLine_k0.2.1.1.2 3 rfl (by unfold vp_in; decide) ?_
    refine k_nm (fun z_5 ez_5 => ?_)
    have i_6 : z_5.toInt = (d_fresh 14).toInt := by rw [ez_5]; rfl
    have iv_7 : IV z_5 0 5 := by have := rb_14 ez_5 hp_d_fresh; rw [IV]; omega
    refine k_imul X dX11_scratchLine_k0.2.1.2.1 ?_
    refine k_nm (fun z_8 ez_8 => ?_)
    have i_9 : z_8.toInt = 2 * z_5.toInt := in_mul ez_8 (by decide) (zle_e rfl) iv_7 (zle_e rfl) (zle_e rfl)
    have iv_10 : IV z_8 0 10 := iz4 i_9 iv_7 (zle_e rfl) (zle_e rfl) (zle_e rfl)
    refine k_iadd X dX11_scratchLine_k0.2.1.2.2 ?_
    refine k_nm (fun z_11 ez_11 => ?_)
    have i_12 : z_11.toInt = 155 + z_8.toInt := in_add ez_11 iq_155_155_155 iv_10 (zle_e rfl) (zle_e rfl)
    have iv_13 : IV z_11 155 165 := iz2 i_12 iv_10 (zle_e rfl) (zle_e rfl)
    refine k_istore_n [(1, .int z_11), (0, .ref h0)] X dX11_scratchLine_k0.2.2.1.1 (nlt_e rfl) rfl ?_
    refine k_aload_n X dX11_scratchLine_k0.2.2.1.2 1 rfl ?_
    refine k_get (ci := 11) X inlX11 rfl 16 (nlt_e rfl) dX11_scratchLine_k0.2.2.2.1 mw171 0 rfl rfl ?_
    refine k_iload_n X dX11_scratchLine_k0.2.2.2.2 0 rfl ?_
    refine k_aload_n X dX11_scratchLine_k1.1.1.1.1 1 rfl ?_
    refine k_callVI (n := 0) (As := []) (st := [.int z_11, .ref a_fresh]) X [(cO11_i1r1i10r1i2r5i2r12i3r4i2 h0 m_thrown a_tape m_taped m_size m_at m_end m_token m_whole m_nameSize m_fault m_place m_trouble a_letters m_failed m_hasHouse a_r a_fresh a_st a_undone a_kept m_undos m_images a_from a_begin a_motor a_change a_startFrame a_changeFrame a_lostAt a_blackAt a_slips a_leftArc a_died a_arcs m_bestSum m_nearest m_nearestTown a_there a_backAt a_sorted a_parts m_seed1 m_darkNow), (cAI g a_tape 900 d_tape), (cAI g a_letters 8 d_letters), (cAI g a_fresh 311 d_fresh)] [] [0, 1, 2, 3] [] (m_reelPassedX l g h0 m_thrown a_tape m_taped m_size m_at m_end m_token m_whole m_nameSize m_fault m_place m_trouble a_letters m_failed m_hasHouse a_r a_fresh a_st a_undone a_kept m_undos m_images a_from a_begin a_motor a_change a_startFrame a_changeFrame a_lostAt a_blackAt a_slips a_leftArc a_died a_arcs m_bestSum m_nearest m_nearestTown a_there a_backAt a_sorted a_parts m_seed1 m_darkNow d_tape d_letters d_fresh (iv_w hv_m_size (zle_e rfl) (zle_e rfl)) (iv_w hv_m_end (zle_e rfl) (zle_e rfl)) (iv_w hv_m_nameSize (zle_e rfl) (zle_e rfl)) (iv_w iv_2 (zle_e rfl) (zle_e rfl)) hp_d_fresh hc_1) dX11_scratchLine_k1.1.1.1.2 mw571 mw572 mw573 mw5 mw574 rfl 11 rfl rfl 0 _ rfl yk_yX11_reelPassed_0 rfl (Nat.le_of_ble_eq_true rfl) (Nat.le_of_ble_eq_true rfl) (Nat.le_of_ble_eq_true rfl) (Nat.le_of_ble_eq_true rfl) (Nat.le_of_ble_eq_true rfl) rfl rfl (vnd_e rfl) rfl (vnd_e rfl) (dsj_e rfl) ?_
    intro r_23 w zq
    refine exE9 zq ?_
    clear zq
    intro m_at2_14 m_end2_15 m_failed2_16 m_fault2_17 d_letters2_18 m_nameSize2_19 m_place2_20 m_token2_21 m_whole2_22 iv_24 zq
    refine exA6 zq ?_
    clear zq
    intro iv_25 iv_26 iv_27 hq_28 hq_29 hk_30 zq
    subst zq
    refine k_ws [(cO11_i1r1i10r1i2r5i2r12i3r4i2 h0 m_thrown a_tape m_taped m_size m_at2_14 m_end2_15 m_token2_21 m_whole2_22 m_nameSize2_19 m_fault2_17 m_place2_20 m_trouble a_letters m_failed2_16 m_hasHouse a_r a_fresh a_st a_undone a_kept m_undos m_images a_from a_begin a_motor a_change a_startFrame a_changeFrame a_lostAt a_blackAt a_slips a_leftArc a_died a_arcs m_bestSum m_nearest m_nearestTown a_there a_backAt a_sorted a_parts m_seed1 m_darkNow), (cAI g a_tape 900 d_tape), (cAI g a_letters 8 d_letters2_18), (cAI g a_fresh 311 d_fresh)] rfl ?_
    refine k_iast [(cO11_i1r1i10r1i2r5i2r12i3r4i2 h0 m_thrown a_tape m_taped m_size m_at2_14 m_end2_15 m_token2_21 m_whole2_22 m_nameSize2_19 m_fault2_17 m_place2_20 m_trouble a_letters m_failed2_16 m_hasHouse a_r a_fresh a_st a_undone a_kept m_undos m_images a_from a_begin a_motor a_change a_startFrame a_changeFrame a_lostAt a_blackAt a_slips a_leftArc a_died a_arcs m_bestSum m_nearest m_nearestTown a_there a_backAt a_sorted a_parts m_seed1 m_darkNow), (cAI g a_tape 900 d_tape), (cAI g a_letters 8 d_letters2_18), (cAI g a_fresh 311 (upd d_fresh (z_11 : Int32).toNatClampNeg r_23))] X dX11_scratchLine_k1.1.1.2.1 3 rfl (iv_in iv_13 (zle_e rfl) (zle_l rfl)) rfl ?_
    have i_33 : z_11.toInt = 155 + 2 * z_5.toInt := by omega
    refine (fun hg : ∀ fa_31 : Nat → Int32, fa_31 = upd d_fresh (z_11 : Int32).toNatClampNeg r_23 → RInv fa_31 → K16 d_fresh fa_31 → Wk p l e _ s m args below meth c _ A g _ _ _ [(cO11_i1r1i10r1i2r5i2r12i3r4i2 h0 m_thrown a_tape m_taped m_size m_at2_14 m_end2_15 m_token2_21 m_whole2_22 m_nameSize2_19 m_fault2_17 m_place2_20 m_trouble a_letters m_failed2_16 m_hasHouse a_r a_fresh a_st a_undone a_kept m_undos m_images a_from a_begin a_motor a_change a_startFrame a_changeFrame a_lostAt a_blackAt a_slips a_leftArc a_died a_arcs m_bestSum m_nearest m_nearestTown a_there a_backAt a_sorted a_parts m_seed1 m_darkNow), (cAI g a_tape 900 d_tape), (cAI g a_letters 8 d_letters2_18), (cAI g a_fresh 311 fa_31)] _ _ _ => hg _ rfl (w_rb_155_2 hp_d_fresh i_33 (iv_w iv_7 (zle_e rfl) (zle_e rfl)) (iv_w iv_27 (zle_e rfl) (zle_e rfl))) (k16_u (z := z_11) (by have := iv_13; omega))) (fun fa_31 eq_35 hR_32 hk_34 => ?_)
    have ek_36 : z_5 = fa_31 (14 : Int32).toNatClampNeg := ez_5.trans (hk_34 _ (by decide)).symm
    have hT_37 : TRI fa_31 := by have := iv_13; exact tri_z (z := z_11) eq_35 hr_0 hp_d_fresh (by omega) (by omega) (by omega) (by omega) (by omega)
    refine k_aload_n X dX11_scratchLine_k1.1.1.2.2 1 rfl ?_
    refine k_get (ci := 11) X inlX11 rfl 13 (nlt_e rfl) dX11_scratchLine_k1.1.2.1.1 mw469 0 rfl rfl ?_
    refine k_if_ne 57 X dX11_scratchLine_k1.1.2.1.2 (jp_e rfl) (fun h_38 => ?_) (fun h_38 => ?_)
    · skip
      have iv_39 : IV m_failed2_16 1 1 := iv_neL h_38 iv_25 iq_0_0_0 (zle_e rfl)
      refine k_aload_n X dX11_scratchLine_k2.1.1.2.2 1 rfl ?_
      refine k_get (ci := 11) X inlX11 rfl 13 (nlt_e rfl) dX11_scratchLine_k2.1.2.1.1 mw469 0 rfl rfl ?_
      refine k_if_ne 75 X dX11_scratchLine_k2.1.2.1.2 (jp_e rfl) (fun h_40 => ?_) (fun h_40 => (iv_eqN h_40 iv_39 iq_0_0_0 (by decide)).elim)
      exact k_vret X hr dX11_scratchLine_k2.2.2.2.2 (Nat.le_of_ble_eq_true rfl) (Nat.le_of_ble_eq_true rfl) [0, 1, 2, 3] (vnd_e rfl) rfl rfl ⟨m_at2_14, m_end2_15, m_failed2_16, m_fault2_17, fa_31, d_letters2_18, m_nameSize2_19, m_place2_20, m_token2_21, m_whole2_22, (iv_w iv_24 (zle_e rfl) (zle_e rfl)), (iv_w iv_39 (zle_e rfl) (zle_e rfl)), (iv_w iv_26 (zle_e rfl) (zle_e rfl)), hR_32, (by omega), hT_37, (Or.inl ⟨h_1, ⟨z_5, ez_5, ⟨z_8, ez_8, ⟨z_11, ez_11, ⟨m_at2_14, m_end2_15, m_failed2_16, m_fault2_17, d_letters2_18, m_nameSize2_19, m_place2_20, m_token2_21, m_whole2_22, r_23, hq_29, ⟨fa_31, eq_35, (Or.inl ⟨h_38, ⟨rfl, rfl, rfl, rfl, rfl, rfl, rfl, rfl, rfl, rfl⟩⟩)⟩⟩⟩⟩⟩⟩), hk_30, rfl⟩
    · skip
      have iv_41 : IV m_failed2_16 0 0 := iv_meet iv_25 (iv_e h_38 iq_0_0_0) (zle_o rfl) (zle_o rfl)
      refine k_aload_n X dX11_scratchLine_k1.1.2.2.1 1 rfl ?_
      refine k_get (ci := 11) X inlX11 rfl 16 (nlt_e rfl) dX11_scratchLine_k1.1.2.2.2 mw171 0 rfl rfl ?_
      refine k_iload_n X dX11_scratchLine_k1.2.1.1.1 0 rfl ?_
      refine k_iconst (v := 1) X dX11_scratchLine_k1.2.1.1.2 ic_1 ?_
      refine k_iadd X dX11_scratchLine_k1.2.1.2.1 ?_
      refine k_nm (fun z_42 ez_42 => ?_)
      have i_43 : z_42.toInt = z_11.toInt + 1 := in_add ez_42 iv_13 iq_1_1_1 (zle_e rfl) (zle_e rfl)
      have iv_44 : IV z_42 156 166 := iz1 i_43 iv_13 (zle_e rfl) (zle_e rfl)
      refine k_aload_n X dX11_scratchLine_k1.2.1.2.2 1 rfl ?_
      refine k_aload_n X dX11_scratchLine_k1.2.2.1.1 1 rfl ?_
      refine k_get (ci := 11) X inlX11 rfl 16 (nlt_e rfl) dX11_scratchLine_k1.2.2.1.2 mw171 0 rfl rfl ?_
      refine k_iload_n X dX11_scratchLine_k1.2.2.2.1 0 rfl ?_
      refine k_iald X dX11_scratchLine_k1.2.2.2.2 3 rfl (iv_in iv_13 (zle_e rfl) (zle_l rfl)) ?_
      refine k_nm (fun z_45 ez_45 => ?_)
      have i_46 : z_11.toInt = 155 + 2 * z_5.toInt := by omega
      have iv_47 : IV z_45 0 7 := rb_155_2 ez_45 hR_32 i_46 (iv_w iv_7 (zle_e rfl) (zle_e rfl))
      refine k_callVI (n := 1) (As := [.int z_45]) (st := [.int z_42, .ref a_fresh]) X [(cO11_i1r1i10r1i2r5i2r12i3r4i2 h0 m_thrown a_tape m_taped m_size m_at2_14 m_end2_15 m_token2_21 m_whole2_22 m_nameSize2_19 m_fault2_17 m_place2_20 m_trouble a_letters m_failed2_16 m_hasHouse a_r a_fresh a_st a_undone a_kept m_undos m_images a_from a_begin a_motor a_change a_startFrame a_changeFrame a_lostAt a_blackAt a_slips a_leftArc a_died a_arcs m_bestSum m_nearest m_nearestTown a_there a_backAt a_sorted a_parts m_seed1 m_darkNow), (cAI g a_tape 900 d_tape), (cAI g a_letters 8 d_letters2_18), (cAI g a_fresh 311 fa_31)] [] [0, 1, 2, 3] [] (m_frameOfX l g h0 z_45 m_thrown a_tape m_taped m_size m_at2_14 m_end2_15 m_token2_21 m_whole2_22 m_nameSize2_19 m_fault2_17 m_place2_20 m_trouble a_letters m_failed2_16 m_hasHouse a_r a_fresh a_st a_undone a_kept m_undos m_images a_from a_begin a_motor a_change a_startFrame a_changeFrame a_lostAt a_blackAt a_slips a_leftArc a_died a_arcs m_bestSum m_nearest m_nearestTown a_there a_backAt a_sorted a_parts m_seed1 m_darkNow d_tape d_letters2_18 fa_31 (iv_w iv_47 (zle_e rfl) (zle_e rfl)) (iv_w hv_m_size (zle_e rfl) (zle_e rfl)) (iv_w iv_24 (zle_e rfl) (zle_e rfl)) (iv_w iv_26 (zle_e rfl) (zle_e rfl)) (iv_w iv_41 (zle_e rfl) (zle_e rfl)) hR_32 hk_30) dX11_scratchLine_k2.1.1.1 mw579 mw580 mw581 mw5 mw582 rfl 11 rfl rfl 0 _ rfl yk_yX11_frameOf_1 rfl (Nat.le_of_ble_eq_true rfl) (Nat.le_of_ble_eq_true rfl) (Nat.le_of_ble_eq_true rfl) (Nat.le_of_ble_eq_true rfl) (Nat.le_of_ble_eq_true rfl) rfl rfl (vnd_e rfl) rfl (vnd_e rfl) (dsj_e rfl) ?_
      intro r_57 w zq
      refine exE9 zq ?_
      clear zq
      intro m_at2_48 m_end2_49 m_failed2_50 m_fault2_51 d_letters2_52 m_nameSize2_53 m_place2_54 m_token2_55 m_whole2_56 iv_58 zq
      refine exA5 zq ?_
      clear zq
      intro iv_59 iv_60 hq_61 hq_62 hk_63 zq
      subst zq
      refine k_ws [(cO11_i1r1i10r1i2r5i2r12i3r4i2 h0 m_thrown a_tape m_taped m_size m_at2_48 m_end2_49 m_token2_55 m_whole2_56 m_nameSize2_53 m_fault2_51 m_place2_54 m_trouble a_letters m_failed2_50 m_hasHouse a_r a_fresh a_st a_undone a_kept m_undos m_images a_from a_begin a_motor a_change a_startFrame a_changeFrame a_lostAt a_blackAt a_slips a_leftArc a_died a_arcs m_bestSum m_nearest m_nearestTown a_there a_backAt a_sorted a_parts m_seed1 m_darkNow), (cAI g a_tape 900 d_tape), (cAI g a_letters 8 d_letters2_52), (cAI g a_fresh 311 fa_31)] rfl ?_
      refine k_iast [(cO11_i1r1i10r1i2r5i2r12i3r4i2 h0 m_thrown a_tape m_taped m_size m_at2_48 m_end2_49 m_token2_55 m_whole2_56 m_nameSize2_53 m_fault2_51 m_place2_54 m_trouble a_letters m_failed2_50 m_hasHouse a_r a_fresh a_st a_undone a_kept m_undos m_images a_from a_begin a_motor a_change a_startFrame a_changeFrame a_lostAt a_blackAt a_slips a_leftArc a_died a_arcs m_bestSum m_nearest m_nearestTown a_there a_backAt a_sorted a_parts m_seed1 m_darkNow), (cAI g a_tape 900 d_tape), (cAI g a_letters 8 d_letters2_52), (cAI g a_fresh 311 (upd fa_31 (z_42 : Int32).toNatClampNeg r_57))] X dX11_scratchLine_k2.1.1.2.1 3 rfl (iv_in iv_44 (zle_e rfl) (zle_l rfl)) rfl ?_
      have i_66 : z_42.toInt = 156 + 2 * z_5.toInt := by omega
      refine (fun hg : ∀ fa_64 : Nat → Int32, fa_64 = upd fa_31 (z_42 : Int32).toNatClampNeg r_57 → RInv fa_64 → K16 fa_31 fa_64 → Wk p l e _ s m args below meth c _ A g _ _ _ [(cO11_i1r1i10r1i2r5i2r12i3r4i2 h0 m_thrown a_tape m_taped m_size m_at2_48 m_end2_49 m_token2_55 m_whole2_56 m_nameSize2_53 m_fault2_51 m_place2_54 m_trouble a_letters m_failed2_50 m_hasHouse a_r a_fresh a_st a_undone a_kept m_undos m_images a_from a_begin a_motor a_change a_startFrame a_changeFrame a_lostAt a_blackAt a_slips a_leftArc a_died a_arcs m_bestSum m_nearest m_nearestTown a_there a_backAt a_sorted a_parts m_seed1 m_darkNow), (cAI g a_tape 900 d_tape), (cAI g a_letters 8 d_letters2_52), (cAI g a_fresh 311 fa_64)] _ _ _ => hg _ rfl (w_fr_156_2 hR_32 i_66 (iv_w iv_7 (zle_e rfl) (zle_e rfl))) (k16_u (z := z_42) (by have := iv_44; omega))) (fun fa_64 eq_68 hR_65 hk_67 => ?_)
      have ek_69 : z_5 = fa_64 (14 : Int32).toNatClampNeg := ek_36.trans (hk_67 _ (by decide)).symm
      have hT_70 : TRI fa_64 := by have := iv_44; exact tri_z (z := z_42) eq_68 hT_37 hR_32 (by omega) (by omega) (by omega) (by omega) (by omega)
      refine k_aload_n X dX11_scratchLine_k2.1.1.2.2 1 rfl ?_
      refine k_get (ci := 11) X inlX11 rfl 13 (nlt_e rfl) dX11_scratchLine_k2.1.2.1.1 mw469 0 rfl rfl ?_
      refine k_if_ne 75 X dX11_scratchLine_k2.1.2.1.2 (jp_e rfl) (fun h_71 => ?_) (fun h_71 => ?_)
      · skip
        have iv_72 : IV m_failed2_50 1 1 := iv_neL h_71 iv_59 iq_0_0_0 (zle_e rfl)
        exact k_vret X hr dX11_scratchLine_k2.2.2.2.2 (Nat.le_of_ble_eq_true rfl) (Nat.le_of_ble_eq_true rfl) [0, 1, 2, 3] (vnd_e rfl) rfl rfl ⟨m_at2_48, m_end2_49, m_failed2_50, m_fault2_51, fa_64, d_letters2_52, m_nameSize2_53, m_place2_54, m_token2_55, m_whole2_56, (iv_w iv_58 (zle_e rfl) (zle_e rfl)), (iv_w iv_72 (zle_e rfl) (zle_e rfl)), (iv_w iv_60 (zle_e rfl) (zle_e rfl)), hR_65, (by omega), hT_70, (Or.inl ⟨h_1, ⟨z_5, ez_5, ⟨z_8, ez_8, ⟨z_11, ez_11, ⟨m_at2_14, m_end2_15, m_failed2_16, m_fault2_17, d_letters2_18, m_nameSize2_19, m_place2_20, m_token2_21, m_whole2_22, r_23, hq_29, ⟨fa_31, eq_35, (Or.inr ⟨h_38, ⟨z_42, ez_42, ⟨z_45, ez_45, ⟨m_at2_48, m_end2_49, m_failed2_50, m_fault2_51, d_letters2_52, m_nameSize2_53, m_place2_54, m_token2_55, m_whole2_56, r_57, hq_62, ⟨fa_64, eq_68, (Or.inl ⟨h_71, ⟨rfl, rfl, rfl, rfl, rfl, rfl, rfl, rfl, rfl, rfl⟩⟩)⟩⟩⟩⟩⟩)⟩⟩⟩⟩⟩⟩), hk_63, rfl⟩
      · skip
        have iv_73 : IV m_failed2_50 0 0 := iv_meet iv_59 (iv_e h_71 iq_0_0_0) (zle_o rfl) (zle_o rfl)
        refine k_aload_n X dX11_scratchLine_k2.1.2.2.1 1 rfl ?_
        refine k_get (ci := 11) X inlX11 rfl 16 (nlt_e rfl) dX11_scratchLine_k2.1.2.2.2 mw171 0 rfl rfl ?_
        refine k_bipush (v := 14) X dX11_scratchLine_k2.2.1.1 bi_14 ?_
        refine k_dup2 X dX11_scratchLine_k2.2.1.2.1 rfl rfl ?_
        refine k_iald X dX11_scratchLine_k2.2.1.2.2 3 rfl (by unfold vp_in; decide) ?_
        refine k_to z_5 ek_69.symm ?_
        refine k_iconst (v := 1) X dX11_scratchLine_k2.2.2.1.1 ic_1 ?_
        refine k_iadd X dX11_scratchLine_k2.2.2.1.2 ?_
        refine k_nm (fun z_74 ez_74 => ?_)
        have i_75 : z_74.toInt = z_5.toInt + 1 := in_add ez_74 iv_7 iq_1_1_1 (zle_e rfl) (zle_e rfl)
        have iv_76 : IV z_74 1 6 := iz1 i_75 iv_7 (zle_e rfl) (zle_e rfl)
        refine k_iast [(cO11_i1r1i10r1i2r5i2r12i3r4i2 h0 m_thrown a_tape m_taped m_size m_at2_48 m_end2_49 m_token2_55 m_whole2_56 m_nameSize2_53 m_fault2_51 m_place2_54 m_trouble a_letters m_failed2_50 m_hasHouse a_r a_fresh a_st a_undone a_kept m_undos m_images a_from a_begin a_motor a_change a_startFrame a_changeFrame a_lostAt a_blackAt a_slips a_leftArc a_died a_arcs m_bestSum m_nearest m_nearestTown a_there a_backAt a_sorted a_parts m_seed1 m_darkNow), (cAI g a_tape 900 d_tape), (cAI g a_letters 8 d_letters2_52), (cAI g a_fresh 311 (upd fa_64 (14 : Int32).toNatClampNeg z_74))] X dX11_scratchLine_k2.2.2.2.1 3 rfl (by unfold vp_in; decide) rfl ?_
        refine (fun hg : ∀ fa_77 : Nat → Int32, fa_77 = upd fa_64 (14 : Int32).toNatClampNeg z_74 → RInv fa_77 → Wk p l e _ s m args below meth c _ A g _ _ _ [(cO11_i1r1i10r1i2r5i2r12i3r4i2 h0 m_thrown a_tape m_taped m_size m_at2_48 m_end2_49 m_token2_55 m_whole2_56 m_nameSize2_53 m_fault2_51 m_place2_54 m_trouble a_letters m_failed2_50 m_hasHouse a_r a_fresh a_st a_undone a_kept m_undos m_images a_from a_begin a_motor a_change a_startFrame a_changeFrame a_lostAt a_blackAt a_slips a_leftArc a_died a_arcs m_bestSum m_nearest m_nearestTown a_there a_backAt a_sorted a_parts m_seed1 m_darkNow), (cAI g a_tape 900 d_tape), (cAI g a_letters 8 d_letters2_52), (cAI g a_fresh 311 fa_77)] _ _ _ => hg _ rfl (w_rb_14 hR_65 (iv_w iv_76 (zle_e rfl) (zle_e rfl)))) (fun fa_77 eq_80 hR_78 => ?_)
        have hT_81 : TRI fa_77 := by rw [eq_80]; exact tri_n (z := 14) hT_70 hR_65 (by decide) (by decide) (by decide) (by decide)
        exact k_vret X hr dX11_scratchLine_k2.2.2.2.2 (Nat.le_of_ble_eq_true rfl) (Nat.le_of_ble_eq_true rfl) [0, 1, 2, 3] (vnd_e rfl) rfl rfl ⟨m_at2_48, m_end2_49, m_failed2_50, m_fault2_51, fa_77, d_letters2_52, m_nameSize2_53, m_place2_54, m_token2_55, m_whole2_56, (iv_w iv_58 (zle_e rfl) (zle_e rfl)), (iv_w iv_73 (zle_e rfl) (zle_e rfl)), (iv_w iv_60 (zle_e rfl) (zle_e rfl)), hR_78, (by omega), hT_81, (Or.inl ⟨h_1, ⟨z_5, ez_5, ⟨z_8, ez_8, ⟨z_11, ez_11, ⟨m_at2_14, m_end2_15, m_failed2_16, m_fault2_17, d_letters2_18, m_nameSize2_19, m_place2_20, m_token2_21, m_whole2_22, r_23, hq_29, ⟨fa_31, eq_35, (Or.inr ⟨h_38, ⟨z_42, ez_42, ⟨z_45, ez_45, ⟨m_at2_48, m_end2_49, m_failed2_50, m_fault2_51, d_letters2_52, m_nameSize2_53, m_place2_54, m_token2_55, m_whole2_56, r_57, hq_62, ⟨fa_64, eq_68, (Or.inr ⟨h_71, ⟨z_74, ez_74, ⟨fa_77, eq_80, ⟨rfl, rfl, rfl, rfl, rfl, rfl, rfl, rfl, rfl, rfl⟩⟩⟩⟩)⟩⟩⟩⟩⟩)⟩⟩⟩⟩⟩⟩), hk_63, rfl⟩
  · skip
    have iv_82 : IV m_failed 1 1 := iv_neL h_1 hv_m_failed iq_0_0_0 (zle_e rfl)
    exact k_vret X hr dX11_scratchLine_k0.1.1.2.2 (Nat.le_of_ble_eq_true rfl) (Nat.le_of_ble_eq_true rfl) [0, 1, 2, 3] (vnd_e rfl) rfl rfl ⟨m_at, m_end, m_failed, m_fault, d_fresh, d_letters, m_nameSize, m_place, m_token, m_whole, (iv_w hv_m_end (zle_e rfl) (zle_e rfl)), (iv_w iv_82 (zle_e rfl) (zle_e rfl)), (iv_w hv_m_nameSize (zle_e rfl) (zle_e rfl)), hp_d_fresh, (by omega), hr_0, (Or.inr ⟨h_1, ⟨rfl, rfl, rfl, rfl, rfl, rfl, rfl, rfl, rfl, rfl⟩⟩), hc_1, rfl⟩


set_option maxHeartbeats 4000000 in
set_option maxRecDepth 100000 in
theorem m_showsLineX (l : Launch) (g : Gx) (h0 : Nat) (m_thrown : Int32) (a_tape : Nat) (m_taped : Int32) (m_size : Int32) (m_at : Int32) (m_end : Int32) (m_token : Int32) (m_whole : Int32) (m_nameSize : Int32) (m_fault : Int32) (m_place : Int32) (m_trouble : Int32) (a_letters : Nat) (m_failed : Int32) (m_hasHouse : Int32) (a_r : Nat) (a_fresh : Nat) (a_st : Nat) (a_undone : Nat) (a_kept : Nat) (m_undos : Int32) (m_images : Int32) (a_from : Nat) (a_begin : Nat) (a_motor : Nat) (a_change : Nat) (a_startFrame : Nat) (a_changeFrame : Nat) (a_lostAt : Nat) (a_blackAt : Nat) (a_slips : Nat) (a_leftArc : Nat) (a_died : Nat) (a_arcs : Nat) (m_bestSum : Int32) (m_nearest : Int32) (m_nearestTown : Int32) (a_there : Nat) (a_backAt : Nat) (a_sorted : Nat) (a_parts : Nat) (m_seed1 : Int32) (m_darkNow : Int32) (d_tape : Nat → Int32) (d_letters : Nat → Int32) (d_fresh : Nat → Int32) (hv_m_size : IV m_size 0 900) (hv_m_end : IV m_end 0 900) (hv_m_nameSize : IV m_nameSize 0 900) (hv_m_failed : IV m_failed 0 1) (hp_d_fresh : RInv d_fresh) (hr_0 : TRI d_fresh) (hc_0 : m_token = 2 → IV m_nameSize 0 8) : cV l g yX11_showsLine cX11_showsLine 4 7 152 0 0 [.ref h0] [(cO11_i1r1i10r1i2r5i2r12i3r4i2 h0 m_thrown a_tape m_taped m_size m_at m_end m_token m_whole m_nameSize m_fault m_place m_trouble a_letters m_failed m_hasHouse a_r a_fresh a_st a_undone a_kept m_undos m_images a_from a_begin a_motor a_change a_startFrame a_changeFrame a_lostAt a_blackAt a_slips a_leftArc a_died a_arcs m_bestSum m_nearest m_nearestTown a_there a_backAt a_sorted a_parts m_seed1 m_darkNow), (cAI g a_tape 900 d_tape), (cAI g a_letters 8 d_letters), (cAI g a_fresh 311 d_fresh)] (fun w => ∃ (m_at2 : Int32) (m_end2 : Int32) (m_failed2 : Int32) (m_fault2 : Int32) (d_fresh2 : Nat → Int32) (d_letters2 : Nat → Int32) (m_nameSize2 : Int32) (m_place2 : Int32) (m_token2 : Int32) (m_whole2 : Int32), IV m_end2 0 900 ∧ IV m_failed2 0 1 ∧ IV m_nameSize2 0 900 ∧ RInv d_fresh2 ∧ (m_end.toInt ≤ m_end2.toInt) ∧ (TRI d_fresh2) ∧ (R_m_showsLineX m_size m_at m_end m_token m_whole m_nameSize m_fault m_place m_failed d_tape d_letters d_fresh m_at2 m_end2 m_failed2 m_fault2 d_fresh2 d_letters2 m_nameSize2 m_place2 m_token2 m_whole2) ∧ (m_token2 = 2 → IV m_nameSize2 0 8) ∧ w = [(cO11_i1r1i10r1i2r5i2r12i3r4i2 h0 m_thrown a_tape m_taped m_size m_at2 m_end2 m_token2 m_whole2 m_nameSize2 m_fault2 m_place2 m_trouble a_letters m_failed2 m_hasHouse a_r a_fresh a_st a_undone a_kept m_undos m_images a_from a_begin a_motor a_change a_startFrame a_changeFrame a_lostAt a_blackAt a_slips a_leftArc a_died a_arcs m_bestSum m_nearest m_nearestTown a_there a_backAt a_sorted a_parts m_seed1 m_darkNow), (cAI g a_tape 900 d_tape), (cAI g a_letters 8 d_letters2), (cAI g a_fresh 311 d_fresh2)]) := by
  refine cV.of (by decide) (Nat.le_of_ble_eq_true rfl) ?_
  intro p e s m args below meth c A X hr hi
  refine k_lveq [(0, .ref h0)] rfl ?_
  refine k_aload_n X dX11_showsLine_k0.1.1.1.1 0 rfl ?_
  refine k_get (ci := 11) X inlX11 rfl 13 (nlt_e rfl) dX11_showsLine_k0.1.1.1.2 mw469 0 rfl rfl ?_
  refine k_if_eq 8 X dX11_showsLine_k0.1.1.2.1 (jp_e rfl) (fun h_1 => ?_) (fun h_1 => ?_)
  · skip
    have iv_2 : IV m_failed 0 0 := iv_meet hv_m_failed (iv_e h_1 iq_0_0_0) (zle_o rfl) (zle_o rfl)
    refine k_iconst (v := 0) X dX11_showsLine_k0.1.2.1.1 ic_0 ?_
    refine k_istore_n [(1, .int 0), (0, .ref h0)] X dX11_showsLine_k0.1.2.1.2 (nlt_e rfl) rfl ?_
    refine k_iconst (v := 1) X dX11_showsLine_k0.1.2.2.1 ic_1 ?_
    refine k_istore_n [(2, .int 1), (1, .int 0), (0, .ref h0)] X dX11_showsLine_k0.1.2.2.2 (nlt_e rfl) rfl ?_
    refine (fun hL : ∀ (nn_24 : Nat) (uf_3 : Nat → Int32) (uf_6 : Nat → Int32) (u_7 : Int32) (u_9 : Int32) (u_11 : Int32) (u_12 : Int32) (u_14 : Int32) (u_15 : Int32) (u_17 : Int32) (u_18 : Int32) (u_19 : Int32) (u_21 : Int32), (9 - u_7.toInt).toNat = nn_24 → (RInv uf_3) → (TRI uf_3) → (IV u_7 0 8) → (IV u_9 0 1) → (IV u_12 0 0) → (IV u_15 0 900) → (IV u_19 0 900) → (u_17 = 2 → IV u_19 0 8) → (m_end.toInt ≤ u_15.toInt) → (∀ (m_at2 : Int32) (m_end2 : Int32) (m_failed2 : Int32) (m_fault2 : Int32) (d_fresh2 : Nat → Int32) (d_letters2 : Nat → Int32) (m_nameSize2 : Int32) (m_place2 : Int32) (m_token2 : Int32) (m_whole2 : Int32), (∃ n_0 : Nat, R_m_showsLineX_L0 m_size d_tape m_at2 m_end2 m_failed2 m_fault2 d_fresh2 d_letters2 m_nameSize2 m_place2 m_token2 m_whole2 (fun (u_7 : Int32) (uf_3 : Nat → Int32) (u_14 : Int32) (u_15 : Int32) (u_12 : Int32) (u_21 : Int32) (uf_6 : Nat → Int32) (u_19 : Int32) (u_11 : Int32) (u_17 : Int32) (u_18 : Int32) => ((((2 : Int32) ≤ u_7) ∧ (∃ fa_34 : Nat → Int32, fa_34 = upd uf_3 ((12 : Int32)).toNatClampNeg u_7 ∧ m_at2 = u_14 ∧ m_end2 = u_15 ∧ m_failed2 = u_12 ∧ m_fault2 = u_21 ∧ d_fresh2 = fa_34 ∧ d_letters2 = uf_6 ∧ m_nameSize2 = u_19 ∧ m_place2 = u_11 ∧ m_token2 = u_17 ∧ m_whole2 = u_18)) ∨ ((¬ ((2 : Int32) ≤ u_7)) ∧ ((((u_17 = (59 : Int32)) ∧ (∃ m_failed2_43 : Int32, ∃ m_fault2_44 : Int32, ∃ m_place2_45 : Int32, (R_m_badX 6 u_14 u_21 u_11 u_12 m_failed2_43 m_fault2_44 m_place2_45) ∧ m_at2 = u_14 ∧ m_end2 = u_15 ∧ m_failed2 = m_failed2_43 ∧ m_fault2 = m_fault2_44 ∧ d_fresh2 = uf_3 ∧ d_letters2 = uf_6 ∧ m_nameSize2 = u_19 ∧ m_place2 = m_place2_45 ∧ m_token2 = u_17 ∧ m_whole2 = u_18)) ∨ ((¬ (u_17 = (59 : Int32))) ∧ ((((u_17 ≠ (0 : Int32)) ∧ (∃ m_failed2_51 : Int32, ∃ m_fault2_52 : Int32, ∃ m_place2_53 : Int32, (R_m_badX 1 u_14 u_21 u_11 u_12 m_failed2_51 m_fault2_52 m_place2_53) ∧ m_at2 = u_14 ∧ m_end2 = u_15 ∧ m_failed2 = m_failed2_51 ∧ m_fault2 = m_fault2_52 ∧ d_fresh2 = uf_3 ∧ d_letters2 = uf_6 ∧ m_nameSize2 = u_19 ∧ m_place2 = m_place2_53 ∧ m_token2 = u_17 ∧ m_whole2 = u_18)) ∨ ((u_17 = (0 : Int32)) ∧ (∃ m_failed2_59 : Int32, ∃ m_fault2_60 : Int32, ∃ m_place2_61 : Int32, (R_m_badX 6 u_14 u_21 u_11 u_12 m_failed2_59 m_fault2_60 m_place2_61) ∧ m_at2 = u_14 ∧ m_end2 = u_15 ∧ m_failed2 = m_failed2_59 ∧ m_fault2 = m_fault2_60 ∧ d_fresh2 = uf_3 ∧ d_letters2 = uf_6 ∧ m_nameSize2 = u_19 ∧ m_place2 = m_place2_61 ∧ m_token2 = u_17 ∧ m_whole2 = u_18)))))))))) n_0 uf_3 uf_6 u_7 u_9 u_11 u_12 u_14 u_15 u_17 u_18 u_19 u_21) → R_m_showsLineX m_size m_at m_end m_token m_whole m_nameSize m_fault m_place m_failed d_tape d_letters d_fresh m_at2 m_end2 m_failed2 m_fault2 d_fresh2 d_letters2 m_nameSize2 m_place2 m_token2 m_whole2) → Wk p l e _ s m args below meth c _ A g _ _ _ [(cO11_i1r1i10r1i2r5i2r12i3r4i2 h0 m_thrown a_tape m_taped m_size u_14 u_15 u_17 u_18 u_19 u_21 u_11 m_trouble a_letters u_12 m_hasHouse a_r a_fresh a_st a_undone a_kept m_undos m_images a_from a_begin a_motor a_change a_startFrame a_changeFrame a_lostAt a_blackAt a_slips a_leftArc a_died a_arcs m_bestSum m_nearest m_nearestTown a_there a_backAt a_sorted a_parts m_seed1 m_darkNow), (cAI g a_tape 900 d_tape), (cAI g a_letters 8 uf_6), (cAI g a_fresh 311 uf_3)] [(2, .int u_9), (1, .int u_7), (0, .ref h0)] 12 [] => hL _ d_fresh d_letters 0 1 m_place m_failed m_at m_end m_token m_whole m_nameSize m_fault rfl hp_d_fresh hr_0 (iv_w iq_0_0_0 (zle_e rfl) (zle_e rfl)) (iv_w iq_1_1_1 (zle_e rfl) (zle_e rfl)) (iv_w iv_2 (zle_e rfl) (zle_e rfl)) (iv_w hv_m_end (zle_e rfl) (zle_e rfl)) (iv_w hv_m_nameSize (zle_e rfl) (zle_e rfl)) hc_0 (by omega) (fun m_at2 m_end2 m_failed2 m_fault2 d_fresh2 d_letters2 m_nameSize2 m_place2 m_token2 m_whole2 h => (Or.inl ⟨h_1, h⟩))) ?_
    refine fun nn_24 => Nat.strongRecOn nn_24 (fun nn_24 ih_26 => ?_)
    intro uf_3 uf_6 u_7 u_9 u_11 u_12 u_14 u_15 u_17 u_18 u_19 u_21 hm_25 hp_4 hT_5 hv_8 hv_10 hv_13 hv_16 hv_20 hx_22 hx_23 KH_0
    refine k_iload_n X dX11_showsLine_k0.2.1.1.1 0 rfl ?_
    refine k_if_eq 79 X dX11_showsLine_k0.2.1.1.2 (jp_e rfl) (fun h_27 => ?_) (fun h_27 => ?_)
    · skip
      have iv_28 : IV u_9 0 0 := iv_meet hv_10 (iv_e h_27 iq_0_0_0) (zle_o rfl) (zle_o rfl)
      refine k_aload_n X dX11_showsLine_k2.2.2.1.1 2 rfl ?_
      refine k_get (ci := 11) X inlX11 rfl 13 (nlt_e rfl) dX11_showsLine_k2.2.2.1.2 mw469 0 rfl rfl ?_
      refine k_if_ne 121 X dX11_showsLine_k2.2.2.2.1 (jp_e rfl) (fun h_29 => absurd (iv_eq hv_13 iq_0_0_0) h_29) (fun h_29 => ?_)
      refine k_iload_n X dX11_showsLine_k2.2.2.2.2 1 rfl ?_
      refine k_iconst (v := 2) X dX11_showsLine_k3.1.1.1.1 ic_2 ?_
      refine k_ic_ge 121 X dX11_showsLine_k3.1.1.1.2 (jp_e rfl) (fun h_30 => ?_) (fun h_30 => ?_)
      · skip
        have j_31 : 2 ≤ u_7.toInt := iv_le h_30
        have iv_32 : IV u_7 2 8 := iv_leR (iv_le h_30) iq_2_2_2 hv_8 (zle_e rfl)
        refine k_aload_n X dX11_showsLine_k4.1.1.1 2 rfl ?_
        refine k_get (ci := 11) X inlX11 rfl 13 (nlt_e rfl) dX11_showsLine_k4.1.1.2 mw469 0 rfl rfl ?_
        refine k_if_ne 136 X dX11_showsLine_k4.1.2.1 (jp_e rfl) (fun h_33 => absurd (iv_eq hv_13 iq_0_0_0) h_33) (fun h_33 => ?_)
        refine k_aload_n X dX11_showsLine_k4.1.2.2 2 rfl ?_
        refine k_get (ci := 11) X inlX11 rfl 16 (nlt_e rfl) dX11_showsLine_k4.2.1.1 mw171 0 rfl rfl ?_
        refine k_bipush (v := 12) X dX11_showsLine_k4.2.1.2 bi_12 ?_
        refine k_iload_n X dX11_showsLine_k4.2.2.1 1 rfl ?_
        refine k_iast [(cO11_i1r1i10r1i2r5i2r12i3r4i2 h0 m_thrown a_tape m_taped m_size u_14 u_15 u_17 u_18 u_19 u_21 u_11 m_trouble a_letters u_12 m_hasHouse a_r a_fresh a_st a_undone a_kept m_undos m_images a_from a_begin a_motor a_change a_startFrame a_changeFrame a_lostAt a_blackAt a_slips a_leftArc a_died a_arcs m_bestSum m_nearest m_nearestTown a_there a_backAt a_sorted a_parts m_seed1 m_darkNow), (cAI g a_tape 900 d_tape), (cAI g a_letters 8 uf_6), (cAI g a_fresh 311 (upd uf_3 (12 : Int32).toNatClampNeg u_7))] X dX11_showsLine_k4.2.2.2.1 3 rfl (by unfold vp_in; decide) rfl ?_
        refine (fun hg : ∀ fa_34 : Nat → Int32, fa_34 = upd uf_3 (12 : Int32).toNatClampNeg u_7 → RInv fa_34 → Wk p l e _ s m args below meth c _ A g _ _ _ [(cO11_i1r1i10r1i2r5i2r12i3r4i2 h0 m_thrown a_tape m_taped m_size u_14 u_15 u_17 u_18 u_19 u_21 u_11 m_trouble a_letters u_12 m_hasHouse a_r a_fresh a_st a_undone a_kept m_undos m_images a_from a_begin a_motor a_change a_startFrame a_changeFrame a_lostAt a_blackAt a_slips a_leftArc a_died a_arcs m_bestSum m_nearest m_nearestTown a_there a_backAt a_sorted a_parts m_seed1 m_darkNow), (cAI g a_tape 900 d_tape), (cAI g a_letters 8 uf_6), (cAI g a_fresh 311 fa_34)] _ _ _ => hg _ rfl (w_rb_12 hp_4 (iv_w iv_32 (zle_e rfl) (zle_e rfl)))) (fun fa_34 eq_37 hR_35 => ?_)
        have hT_38 : TRI fa_34 := by rw [eq_37]; exact tri_n (z := 12) hT_5 hp_4 (by decide) (by decide) (by decide) (by decide)
        exact k_vret X hr dX11_showsLine_k4.2.2.2.2 (Nat.le_of_ble_eq_true rfl) (Nat.le_of_ble_eq_true rfl) [0, 1, 2, 3] (vnd_e rfl) rfl rfl ⟨u_14, u_15, u_12, u_21, fa_34, uf_6, u_19, u_11, u_17, u_18, (iv_w hv_16 (zle_e rfl) (zle_e rfl)), (iv_w hv_13 (zle_e rfl) (zle_e rfl)), (iv_w hv_20 (zle_e rfl) (zle_e rfl)), hR_35, (by omega), hT_38, (KH_0 _ _ _ _ _ _ _ _ _ _ ⟨0 + 1, (Or.inl ⟨h_27, (Or.inl ⟨h_30, ⟨fa_34, eq_37, ⟨rfl, rfl, rfl, rfl, rfl, rfl, rfl, rfl, rfl, rfl⟩⟩⟩)⟩)⟩), hx_22, rfl⟩
      · skip
        have j_39 : u_7.toInt < 2 := iv_nle h_30
        have iv_40 : IV u_7 0 1 := iv_ltL (iv_nle h_30) hv_8 iq_2_2_2 (zle_e rfl)
        refine k_aload_n X dX11_showsLine_k3.1.1.2.1 2 rfl ?_
        refine k_aload_n X dX11_showsLine_k3.1.1.2.2 2 rfl ?_
        refine k_get (ci := 11) X inlX11 rfl 6 (nlt_e rfl) dX11_showsLine_k3.1.2.1.1 mw472 0 rfl rfl ?_
        refine k_bipush (v := 59) X dX11_showsLine_k3.1.2.1.2 bi_59 ?_
        refine k_ic_eq 108 X dX11_showsLine_k3.1.2.2.1 (jp_e rfl) (fun h_41 => ?_) (fun h_41 => ?_)
        · skip
          have iv_42 : IV u_17 59 59 := iv_meet (iv_any u_17) (iv_e h_41 iq_59_59_59) (zle_o rfl) (zle_o rfl)
          refine k_bipush (v := 6) X dX11_showsLine_k3.2.1.2.1 bi_6 ?_
          refine k_goto 114 X dX11_showsLine_k3.2.1.2.2 (jp_e rfl) ?_
          refine k_aload_n X dX11_showsLine_k3.2.2.1.2 2 rfl ?_
          refine k_get (ci := 11) X inlX11 rfl 4 (nlt_e rfl) dX11_showsLine_k3.2.2.2.1 mw473 0 rfl rfl ?_
          refine k_callVV (n := 2) (As := [.int 6, .int u_14]) (st := []) X [(cO11_i1r1i10r1i2r5i2r12i3r4i2 h0 m_thrown a_tape m_taped m_size u_14 u_15 u_17 u_18 u_19 u_21 u_11 m_trouble a_letters u_12 m_hasHouse a_r a_fresh a_st a_undone a_kept m_undos m_images a_from a_begin a_motor a_change a_startFrame a_changeFrame a_lostAt a_blackAt a_slips a_leftArc a_died a_arcs m_bestSum m_nearest m_nearestTown a_there a_backAt a_sorted a_parts m_seed1 m_darkNow)] [(cAI g a_tape 900 d_tape), (cAI g a_letters 8 uf_6), (cAI g a_fresh 311 uf_3)] [0] [1, 2, 3] (m_badX l g h0 6 u_14 m_thrown a_tape m_taped m_size u_14 u_15 u_17 u_18 u_19 u_21 u_11 m_trouble a_letters u_12 m_hasHouse a_r a_fresh a_st a_undone a_kept m_undos m_images a_from a_begin a_motor a_change a_startFrame a_changeFrame a_lostAt a_blackAt a_slips a_leftArc a_died a_arcs m_bestSum m_nearest m_nearestTown a_there a_backAt a_sorted a_parts m_seed1 m_darkNow (iv_w hv_13 (zle_e rfl) (zle_e rfl))) dX11_showsLine_k3.2.2.2.2 mw519 mw520 mw521 mw5 mw522 rfl 11 rfl rfl 0 _ rfl yk_yX11_bad_2 rfl (Nat.le_of_ble_eq_true rfl) (Nat.le_of_ble_eq_true rfl) (Nat.le_of_ble_eq_true rfl) (Nat.le_of_ble_eq_true rfl) (Nat.le_of_ble_eq_true rfl) rfl rfl (vnd_e rfl) rfl (vnd_e rfl) (dsj_e rfl) ?_
          rintro w ⟨m_failed2_43, m_fault2_44, m_place2_45, iv_47, hq_48, rfl⟩
          refine k_ws [(cAI g a_tape 900 d_tape), (cAI g a_letters 8 uf_6), (cAI g a_fresh 311 uf_3), (cO11_i1r1i10r1i2r5i2r12i3r4i2 h0 m_thrown a_tape m_taped m_size u_14 u_15 u_17 u_18 u_19 m_fault2_44 m_place2_45 m_trouble a_letters m_failed2_43 m_hasHouse a_r a_fresh a_st a_undone a_kept m_undos m_images a_from a_begin a_motor a_change a_startFrame a_changeFrame a_lostAt a_blackAt a_slips a_leftArc a_died a_arcs m_bestSum m_nearest m_nearestTown a_there a_backAt a_sorted a_parts m_seed1 m_darkNow)] rfl ?_
          refine k_aload_n X dX11_showsLine_k4.1.1.1 2 rfl ?_
          refine k_get (ci := 11) X inlX11 rfl 13 (nlt_e rfl) dX11_showsLine_k4.1.1.2 mw469 3 rfl rfl ?_
          refine k_if_ne 136 X dX11_showsLine_k4.1.2.1 (jp_e rfl) (fun h_49 => ?_) (fun h_49 => (iv_eqN h_49 iv_47 iq_0_0_0 (by decide)).elim)
          exact k_vret X hr dX11_showsLine_k4.2.2.2.2 (Nat.le_of_ble_eq_true rfl) (Nat.le_of_ble_eq_true rfl) [3, 0, 1, 2] (vnd_e rfl) rfl rfl ⟨u_14, u_15, m_failed2_43, m_fault2_44, uf_3, uf_6, u_19, m_place2_45, u_17, u_18, (iv_w hv_16 (zle_e rfl) (zle_e rfl)), (iv_w iv_47 (zle_e rfl) (zle_e rfl)), (iv_w hv_20 (zle_e rfl) (zle_e rfl)), hp_4, (by omega), hT_5, (KH_0 _ _ _ _ _ _ _ _ _ _ ⟨0 + 1, (Or.inl ⟨h_27, (Or.inr ⟨h_30, (Or.inl ⟨h_41, ⟨m_failed2_43, m_fault2_44, m_place2_45, hq_48, ⟨rfl, rfl, rfl, rfl, rfl, rfl, rfl, rfl, rfl, rfl⟩⟩⟩)⟩)⟩)⟩), (fun q => (iv_eqN q iv_42 iq_2_2_2 (by decide)).elim), rfl⟩
        · skip
          refine k_aload_n X dX11_showsLine_k3.1.2.2.2 2 rfl ?_
          refine k_get (ci := 11) X inlX11 rfl 6 (nlt_e rfl) dX11_showsLine_k3.2.1.1.1 mw472 0 rfl rfl ?_
          refine k_if_ne 113 X dX11_showsLine_k3.2.1.1.2 (jp_e rfl) (fun h_50 => ?_) (fun h_50 => ?_)
          · skip
            refine k_iconst (v := 1) X dX11_showsLine_k3.2.2.1.1 ic_1 ?_
            refine k_aload_n X dX11_showsLine_k3.2.2.1.2 2 rfl ?_
            refine k_get (ci := 11) X inlX11 rfl 4 (nlt_e rfl) dX11_showsLine_k3.2.2.2.1 mw473 0 rfl rfl ?_
            refine k_callVV (n := 2) (As := [.int 1, .int u_14]) (st := []) X [(cO11_i1r1i10r1i2r5i2r12i3r4i2 h0 m_thrown a_tape m_taped m_size u_14 u_15 u_17 u_18 u_19 u_21 u_11 m_trouble a_letters u_12 m_hasHouse a_r a_fresh a_st a_undone a_kept m_undos m_images a_from a_begin a_motor a_change a_startFrame a_changeFrame a_lostAt a_blackAt a_slips a_leftArc a_died a_arcs m_bestSum m_nearest m_nearestTown a_there a_backAt a_sorted a_parts m_seed1 m_darkNow)] [(cAI g a_tape 900 d_tape), (cAI g a_letters 8 uf_6), (cAI g a_fresh 311 uf_3)] [0] [1, 2, 3] (m_badX l g h0 1 u_14 m_thrown a_tape m_taped m_size u_14 u_15 u_17 u_18 u_19 u_21 u_11 m_trouble a_letters u_12 m_hasHouse a_r a_fresh a_st a_undone a_kept m_undos m_images a_from a_begin a_motor a_change a_startFrame a_changeFrame a_lostAt a_blackAt a_slips a_leftArc a_died a_arcs m_bestSum m_nearest m_nearestTown a_there a_backAt a_sorted a_parts m_seed1 m_darkNow (iv_w hv_13 (zle_e rfl) (zle_e rfl))) dX11_showsLine_k3.2.2.2.2 mw519 mw520 mw521 mw5 mw522 rfl 11 rfl rfl 0 _ rfl yk_yX11_bad_2 rfl (Nat.le_of_ble_eq_true rfl) (Nat.le_of_ble_eq_true rfl) (Nat.le_of_ble_eq_true rfl) (Nat.le_of_ble_eq_true rfl) (Nat.le_of_ble_eq_true rfl) rfl rfl (vnd_e rfl) rfl (vnd_e rfl) (dsj_e rfl) ?_
            rintro w ⟨m_failed2_51, m_fault2_52, m_place2_53, iv_55, hq_56, rfl⟩
            refine k_ws [(cAI g a_tape 900 d_tape), (cAI g a_letters 8 uf_6), (cAI g a_fresh 311 uf_3), (cO11_i1r1i10r1i2r5i2r12i3r4i2 h0 m_thrown a_tape m_taped m_size u_14 u_15 u_17 u_18 u_19 m_fault2_52 m_place2_53 m_trouble a_letters m_failed2_51 m_hasHouse a_r a_fresh a_st a_undone a_kept m_undos m_images a_from a_begin a_motor a_change a_startFrame a_changeFrame a_lostAt a_blackAt a_slips a_leftArc a_died a_arcs m_bestSum m_nearest m_nearestTown a_there a_backAt a_sorted a_parts m_seed1 m_darkNow)] rfl ?_
            refine k_aload_n X dX11_showsLine_k4.1.1.1 2 rfl ?_
            refine k_get (ci := 11) X inlX11 rfl 13 (nlt_e rfl) dX11_showsLine_k4.1.1.2 mw469 3 rfl rfl ?_
            refine k_if_ne 136 X dX11_showsLine_k4.1.2.1 (jp_e rfl) (fun h_57 => ?_) (fun h_57 => (iv_eqN h_57 iv_55 iq_0_0_0 (by decide)).elim)
            exact k_vret X hr dX11_showsLine_k4.2.2.2.2 (Nat.le_of_ble_eq_true rfl) (Nat.le_of_ble_eq_true rfl) [3, 0, 1, 2] (vnd_e rfl) rfl rfl ⟨u_14, u_15, m_failed2_51, m_fault2_52, uf_3, uf_6, u_19, m_place2_53, u_17, u_18, (iv_w hv_16 (zle_e rfl) (zle_e rfl)), (iv_w iv_55 (zle_e rfl) (zle_e rfl)), (iv_w hv_20 (zle_e rfl) (zle_e rfl)), hp_4, (by omega), hT_5, (KH_0 _ _ _ _ _ _ _ _ _ _ ⟨0 + 1, (Or.inl ⟨h_27, (Or.inr ⟨h_30, (Or.inr ⟨h_41, (Or.inl ⟨h_50, ⟨m_failed2_51, m_fault2_52, m_place2_53, hq_56, ⟨rfl, rfl, rfl, rfl, rfl, rfl, rfl, rfl, rfl, rfl⟩⟩⟩)⟩)⟩)⟩)⟩), hx_22, rfl⟩
          · skip
            have iv_58 : IV u_17 0 0 := iv_meet (iv_any u_17) (iv_e h_50 iq_0_0_0) (zle_o rfl) (zle_o rfl)
            refine k_bipush (v := 6) X dX11_showsLine_k3.2.1.2.1 bi_6 ?_
            refine k_goto 114 X dX11_showsLine_k3.2.1.2.2 (jp_e rfl) ?_
            refine k_aload_n X dX11_showsLine_k3.2.2.1.2 2 rfl ?_
            refine k_get (ci := 11) X inlX11 rfl 4 (nlt_e rfl) dX11_showsLine_k3.2.2.2.1 mw473 0 rfl rfl ?_
            refine k_callVV (n := 2) (As := [.int 6, .int u_14]) (st := []) X [(cO11_i1r1i10r1i2r5i2r12i3r4i2 h0 m_thrown a_tape m_taped m_size u_14 u_15 u_17 u_18 u_19 u_21 u_11 m_trouble a_letters u_12 m_hasHouse a_r a_fresh a_st a_undone a_kept m_undos m_images a_from a_begin a_motor a_change a_startFrame a_changeFrame a_lostAt a_blackAt a_slips a_leftArc a_died a_arcs m_bestSum m_nearest m_nearestTown a_there a_backAt a_sorted a_parts m_seed1 m_darkNow)] [(cAI g a_tape 900 d_tape), (cAI g a_letters 8 uf_6), (cAI g a_fresh 311 uf_3)] [0] [1, 2, 3] (m_badX l g h0 6 u_14 m_thrown a_tape m_taped m_size u_14 u_15 u_17 u_18 u_19 u_21 u_11 m_trouble a_letters u_12 m_hasHouse a_r a_fresh a_st a_undone a_kept m_undos m_images a_from a_begin a_motor a_change a_startFrame a_changeFrame a_lostAt a_blackAt a_slips a_leftArc a_died a_arcs m_bestSum m_nearest m_nearestTown a_there a_backAt a_sorted a_parts m_seed1 m_darkNow (iv_w hv_13 (zle_e rfl) (zle_e rfl))) dX11_showsLine_k3.2.2.2.2 mw519 mw520 mw521 mw5 mw522 rfl 11 rfl rfl 0 _ rfl yk_yX11_bad_2 rfl (Nat.le_of_ble_eq_true rfl) (Nat.le_of_ble_eq_true rfl) (Nat.le_of_ble_eq_true rfl) (Nat.le_of_ble_eq_true rfl) (Nat.le_of_ble_eq_true rfl) rfl rfl (vnd_e rfl) rfl (vnd_e rfl) (dsj_e rfl) ?_
            rintro w ⟨m_failed2_59, m_fault2_60, m_place2_61, iv_63, hq_64, rfl⟩
            refine k_ws [(cAI g a_tape 900 d_tape), (cAI g a_letters 8 uf_6), (cAI g a_fresh 311 uf_3), (cO11_i1r1i10r1i2r5i2r12i3r4i2 h0 m_thrown a_tape m_taped m_size u_14 u_15 u_17 u_18 u_19 m_fault2_60 m_place2_61 m_trouble a_letters m_failed2_59 m_hasHouse a_r a_fresh a_st a_undone a_kept m_undos m_images a_from a_begin a_motor a_change a_startFrame a_changeFrame a_lostAt a_blackAt a_slips a_leftArc a_died a_arcs m_bestSum m_nearest m_nearestTown a_there a_backAt a_sorted a_parts m_seed1 m_darkNow)] rfl ?_
            refine k_aload_n X dX11_showsLine_k4.1.1.1 2 rfl ?_
            refine k_get (ci := 11) X inlX11 rfl 13 (nlt_e rfl) dX11_showsLine_k4.1.1.2 mw469 3 rfl rfl ?_
            refine k_if_ne 136 X dX11_showsLine_k4.1.2.1 (jp_e rfl) (fun h_65 => ?_) (fun h_65 => (iv_eqN h_65 iv_63 iq_0_0_0 (by decide)).elim)
            exact k_vret X hr dX11_showsLine_k4.2.2.2.2 (Nat.le_of_ble_eq_true rfl) (Nat.le_of_ble_eq_true rfl) [3, 0, 1, 2] (vnd_e rfl) rfl rfl ⟨u_14, u_15, m_failed2_59, m_fault2_60, uf_3, uf_6, u_19, m_place2_61, u_17, u_18, (iv_w hv_16 (zle_e rfl) (zle_e rfl)), (iv_w iv_63 (zle_e rfl) (zle_e rfl)), (iv_w hv_20 (zle_e rfl) (zle_e rfl)), hp_4, (by omega), hT_5, (KH_0 _ _ _ _ _ _ _ _ _ _ ⟨0 + 1, (Or.inl ⟨h_27, (Or.inr ⟨h_30, (Or.inr ⟨h_41, (Or.inr ⟨h_50, ⟨m_failed2_59, m_fault2_60, m_place2_61, hq_64, ⟨rfl, rfl, rfl, rfl, rfl, rfl, rfl, rfl, rfl, rfl⟩⟩⟩)⟩)⟩)⟩)⟩), (fun q => (iv_eqN q iv_58 iq_2_2_2 (by decide)).elim), rfl⟩
    · skip
      have iv_66 : IV u_9 1 1 := iv_neL h_27 hv_10 iq_0_0_0 (zle_e rfl)
      refine k_aload_n X dX11_showsLine_k0.2.1.2.1 2 rfl ?_
      refine k_iconst (v := 0) X dX11_showsLine_k0.2.1.2.2 ic_0 ?_
      refine k_bipush (v := 7) X dX11_showsLine_k0.2.2.1.1 bi_7 ?_
      refine k_callVI (n := 2) (As := [.int 0, .int 7]) (st := []) X [(cO11_i1r1i10r1i2r5i2r12i3r4i2 h0 m_thrown a_tape m_taped m_size u_14 u_15 u_17 u_18 u_19 u_21 u_11 m_trouble a_letters u_12 m_hasHouse a_r a_fresh a_st a_undone a_kept m_undos m_images a_from a_begin a_motor a_change a_startFrame a_changeFrame a_lostAt a_blackAt a_slips a_leftArc a_died a_arcs m_bestSum m_nearest m_nearestTown a_there a_backAt a_sorted a_parts m_seed1 m_darkNow), (cAI g a_letters 8 uf_6), (cAI g a_fresh 311 uf_3)] [(cAI g a_tape 900 d_tape)] [0, 2, 3] [1] (m_namedRX l g h0 m_thrown a_tape m_taped m_size u_14 u_15 u_17 u_18 u_19 u_21 u_11 m_trouble a_letters u_12 m_hasHouse a_r a_fresh a_st a_undone a_kept m_undos m_images a_from a_begin a_motor a_change a_startFrame a_changeFrame a_lostAt a_blackAt a_slips a_leftArc a_died a_arcs m_bestSum m_nearest m_nearestTown a_there a_backAt a_sorted a_parts m_seed1 m_darkNow uf_6 uf_3 (iv_w hv_20 (zle_e rfl) (zle_e rfl)) (iv_w hv_13 (zle_e rfl) (zle_e rfl)) hp_4 hx_22) dX11_showsLine_k0.2.2.1.2 mw575 mw576 mw577 mw5 mw578 rfl 11 rfl rfl 0 _ rfl yk_yX11_named_2 rfl (Nat.le_of_ble_eq_true rfl) (Nat.le_of_ble_eq_true rfl) (Nat.le_of_ble_eq_true rfl) (Nat.le_of_ble_eq_true rfl) (Nat.le_of_ble_eq_true rfl) rfl rfl (vnd_e rfl) rfl (vnd_e rfl) (dsj_e rfl) ?_
      rintro r_70 w ⟨m_failed2_67, m_fault2_68, m_place2_69, iv_71, iv_72, hq_73, rfl⟩
      refine k_ws [(cAI g a_tape 900 d_tape), (cO11_i1r1i10r1i2r5i2r12i3r4i2 h0 m_thrown a_tape m_taped m_size u_14 u_15 u_17 u_18 u_19 m_fault2_68 m_place2_69 m_trouble a_letters m_failed2_67 m_hasHouse a_r a_fresh a_st a_undone a_kept m_undos m_images a_from a_begin a_motor a_change a_startFrame a_changeFrame a_lostAt a_blackAt a_slips a_leftArc a_died a_arcs m_bestSum m_nearest m_nearestTown a_there a_backAt a_sorted a_parts m_seed1 m_darkNow), (cAI g a_letters 8 uf_6), (cAI g a_fresh 311 uf_3)] rfl ?_
      refine k_istore_n [(3, .int r_70), (2, .int u_9), (1, .int u_7), (0, .ref h0)] X dX11_showsLine_k0.2.2.2.1 (nlt_e rfl) rfl ?_
      refine k_aload_n X dX11_showsLine_k0.2.2.2.2 3 rfl ?_
      refine k_get (ci := 11) X inlX11 rfl 13 (nlt_e rfl) dX11_showsLine_k1.1.1.1.1 mw469 1 rfl rfl ?_
      refine k_if_ne 46 X dX11_showsLine_k1.1.1.1.2 (jp_e rfl) (fun h_74 => ?_) (fun h_74 => ?_)
      · skip
        have iv_75 : IV m_failed2_67 1 1 := iv_neL h_74 iv_71 iq_0_0_0 (zle_e rfl)
        refine k_aload_n X dX11_showsLine_k1.2.1.2.1 3 rfl ?_
        refine k_get (ci := 11) X inlX11 rfl 13 (nlt_e rfl) dX11_showsLine_k1.2.1.2.2 mw469 1 rfl rfl ?_
        refine k_if_eq 54 X dX11_showsLine_k1.2.2.1.1 (jp_e rfl) (fun h_76 => (iv_eqN h_76 iv_75 iq_0_0_0 (by decide)).elim) (fun h_76 => ?_)
        exact k_vret X hr dX11_showsLine_k1.2.2.1.2 (Nat.le_of_ble_eq_true rfl) (Nat.le_of_ble_eq_true rfl) [1, 0, 2, 3] (vnd_e rfl) rfl rfl ⟨u_14, u_15, m_failed2_67, m_fault2_68, uf_3, uf_6, u_19, m_place2_69, u_17, u_18, (iv_w hv_16 (zle_e rfl) (zle_e rfl)), (iv_w iv_75 (zle_e rfl) (zle_e rfl)), (iv_w hv_20 (zle_e rfl) (zle_e rfl)), hp_4, (by omega), hT_5, (KH_0 _ _ _ _ _ _ _ _ _ _ ⟨0 + 1, (Or.inr ⟨h_27, ⟨m_failed2_67, m_fault2_68, m_place2_69, r_70, hq_73, (Or.inl ⟨h_74, ⟨rfl, rfl, rfl, rfl, rfl, rfl, rfl, rfl, rfl, rfl⟩⟩)⟩⟩)⟩), hx_22, rfl⟩
      · skip
        have iv_77 : IV m_failed2_67 0 0 := iv_meet iv_71 (iv_e h_74 iq_0_0_0) (zle_o rfl) (zle_o rfl)
        refine k_iload_n X dX11_showsLine_k1.1.1.2.1 2 rfl ?_
        refine k_bipush (v := 8) X dX11_showsLine_k1.1.1.2.2 bi_8 ?_
        refine k_ic_ne 46 X dX11_showsLine_k1.1.2.1.1 (jp_e rfl) (fun h_78 => ?_) (fun h_78 => ?_)
        · skip
          have iv_79 : IV u_7 0 7 := iv_neH h_78 hv_8 iq_8_8_8 (by decide)
          refine k_aload_n X dX11_showsLine_k1.2.1.2.1 3 rfl ?_
          refine k_get (ci := 11) X inlX11 rfl 13 (nlt_e rfl) dX11_showsLine_k1.2.1.2.2 mw469 1 rfl rfl ?_
          refine k_if_eq 54 X dX11_showsLine_k1.2.2.1.1 (jp_e rfl) (fun h_80 => ?_) (fun h_80 => absurd (iv_eq iv_77 iq_0_0_0) h_80)
          refine k_aload_n X dX11_showsLine_k1.2.2.2.1 3 rfl ?_
          refine k_callVV (n := 0) (As := []) (st := []) X [(cO11_i1r1i10r1i2r5i2r12i3r4i2 h0 m_thrown a_tape m_taped m_size u_14 u_15 u_17 u_18 u_19 m_fault2_68 m_place2_69 m_trouble a_letters m_failed2_67 m_hasHouse a_r a_fresh a_st a_undone a_kept m_undos m_images a_from a_begin a_motor a_change a_startFrame a_changeFrame a_lostAt a_blackAt a_slips a_leftArc a_died a_arcs m_bestSum m_nearest m_nearestTown a_there a_backAt a_sorted a_parts m_seed1 m_darkNow), (cAI g a_tape 900 d_tape), (cAI g a_letters 8 uf_6)] [(cAI g a_fresh 311 uf_3)] [1, 0, 2] [3] (m_nextX l g h0 m_thrown a_tape m_taped m_size u_14 u_15 u_17 u_18 u_19 m_fault2_68 m_place2_69 m_trouble a_letters m_failed2_67 m_hasHouse a_r a_fresh a_st a_undone a_kept m_undos m_images a_from a_begin a_motor a_change a_startFrame a_changeFrame a_lostAt a_blackAt a_slips a_leftArc a_died a_arcs m_bestSum m_nearest m_nearestTown a_there a_backAt a_sorted a_parts m_seed1 m_darkNow d_tape uf_6 (iv_w hv_m_size (zle_e rfl) (zle_e rfl)) (iv_w hv_16 (zle_e rfl) (zle_e rfl)) (iv_w hv_20 (zle_e rfl) (zle_e rfl))) dX11_showsLine_k1.2.2.2.2 mw489 mw490 mw491 mw5 mw492 rfl 11 rfl rfl 0 _ rfl yk_yX11_next_0 rfl (Nat.le_of_ble_eq_true rfl) (Nat.le_of_ble_eq_true rfl) (Nat.le_of_ble_eq_true rfl) (Nat.le_of_ble_eq_true rfl) (Nat.le_of_ble_eq_true rfl) rfl rfl (vnd_e rfl) rfl (vnd_e rfl) (dsj_e rfl) ?_
          intro w zq
          refine exE6 zq ?_
          clear zq
          intro m_at2_81 m_end2_82 d_letters2_83 m_nameSize2_84 m_token2_85 m_whole2_86 iv_88 zq
          refine exA5 zq ?_
          clear zq
          intro iv_89 hq_90 hq_91 hq_92 hk_93 zq
          subst zq
          refine k_ws [(cAI g a_fresh 311 uf_3), (cO11_i1r1i10r1i2r5i2r12i3r4i2 h0 m_thrown a_tape m_taped m_size m_at2_81 m_end2_82 m_token2_85 m_whole2_86 m_nameSize2_84 m_fault2_68 m_place2_69 m_trouble a_letters m_failed2_67 m_hasHouse a_r a_fresh a_st a_undone a_kept m_undos m_images a_from a_begin a_motor a_change a_startFrame a_changeFrame a_lostAt a_blackAt a_slips a_leftArc a_died a_arcs m_bestSum m_nearest m_nearestTown a_there a_backAt a_sorted a_parts m_seed1 m_darkNow), (cAI g a_tape 900 d_tape), (cAI g a_letters 8 d_letters2_83)] rfl ?_
          refine k_aload_n X dX11_showsLine_k2.1.1.1.1 3 rfl ?_
          refine k_get (ci := 11) X inlX11 rfl 16 (nlt_e rfl) dX11_showsLine_k2.1.1.1.2 mw171 1 rfl rfl ?_
          refine k_bipush (v := 126) X dX11_showsLine_k2.1.1.2.1 bi_126 ?_
          refine k_iload_n X dX11_showsLine_k2.1.1.2.2 2 rfl ?_
          refine k_iadd X dX11_showsLine_k2.1.2.1.1 ?_
          refine k_nm (fun z_94 ez_94 => ?_)
          have i_95 : z_94.toInt = 126 + u_7.toInt := in_add ez_94 iq_126_126_126 iv_79 (zle_e rfl) (zle_e rfl)
          have iv_96 : IV z_94 126 133 := iz2 i_95 iv_79 (zle_e rfl) (zle_e rfl)
          refine k_iload_n X dX11_showsLine_k2.1.2.1.2 0 rfl ?_
          refine k_iast [(cAI g a_fresh 311 (upd uf_3 (z_94 : Int32).toNatClampNeg r_70)), (cO11_i1r1i10r1i2r5i2r12i3r4i2 h0 m_thrown a_tape m_taped m_size m_at2_81 m_end2_82 m_token2_85 m_whole2_86 m_nameSize2_84 m_fault2_68 m_place2_69 m_trouble a_letters m_failed2_67 m_hasHouse a_r a_fresh a_st a_undone a_kept m_undos m_images a_from a_begin a_motor a_change a_startFrame a_changeFrame a_lostAt a_blackAt a_slips a_leftArc a_died a_arcs m_bestSum m_nearest m_nearestTown a_there a_backAt a_sorted a_parts m_seed1 m_darkNow), (cAI g a_tape 900 d_tape), (cAI g a_letters 8 d_letters2_83)] X dX11_showsLine_k2.1.2.2.1 0 rfl (iv_in iv_96 (zle_e rfl) (zle_l rfl)) rfl ?_
          have i_99 : z_94.toInt = 126 + 1 * u_7.toInt := by omega
          refine (fun hg : ∀ fa_97 : Nat → Int32, fa_97 = upd uf_3 (z_94 : Int32).toNatClampNeg r_70 → RInv fa_97 → K16 uf_3 fa_97 → Wk p l e _ s m args below meth c _ A g _ _ _ [(cAI g a_fresh 311 fa_97), (cO11_i1r1i10r1i2r5i2r12i3r4i2 h0 m_thrown a_tape m_taped m_size m_at2_81 m_end2_82 m_token2_85 m_whole2_86 m_nameSize2_84 m_fault2_68 m_place2_69 m_trouble a_letters m_failed2_67 m_hasHouse a_r a_fresh a_st a_undone a_kept m_undos m_images a_from a_begin a_motor a_change a_startFrame a_changeFrame a_lostAt a_blackAt a_slips a_leftArc a_died a_arcs m_bestSum m_nearest m_nearestTown a_there a_backAt a_sorted a_parts m_seed1 m_darkNow), (cAI g a_tape 900 d_tape), (cAI g a_letters 8 d_letters2_83)] _ _ _ => hg _ rfl (w_rb_126_1 hp_4 i_99 (iv_w iv_79 (zle_e rfl) (zle_e rfl)) (iv_w iv_72 (zle_e rfl) (zle_e rfl))) (k16_u (z := z_94) (by have := iv_96; omega))) (fun fa_97 eq_101 hR_98 hk_100 => ?_)
          have hT_102 : TRI fa_97 := by have := iv_96; exact tri_z (z := z_94) eq_101 hT_5 hp_4 (by omega) (by omega) (by omega) (by omega) (by omega)
          obtain ⟨z_103, ez_103⟩ : ∃ y : Int32, u_7 + Int32.ofInt 1 = y := ⟨_, rfl⟩
          refine k_iinc z_103 [(1, .int z_103), (3, .int r_70), (2, .int u_9), (0, .ref h0)] 2 X dX11_showsLine_k2.1.2.2.2 rfl ez_103 (nlt_e rfl) rfl ?_
          have i_104 : z_103.toInt = u_7.toInt + 1 := in_inc ez_103 (oin_e rfl) iv_79 (zle_e rfl) (zle_e rfl)
          have iv_105 : IV z_103 1 8 := iz1 i_104 iv_79 (zle_e rfl) (zle_e rfl)
          refine k_aload_n X dX11_showsLine_k2.2.1.1.1 3 rfl ?_
          refine k_callVI (n := 0) (As := []) (st := []) X [(cO11_i1r1i10r1i2r5i2r12i3r4i2 h0 m_thrown a_tape m_taped m_size m_at2_81 m_end2_82 m_token2_85 m_whole2_86 m_nameSize2_84 m_fault2_68 m_place2_69 m_trouble a_letters m_failed2_67 m_hasHouse a_r a_fresh a_st a_undone a_kept m_undos m_images a_from a_begin a_motor a_change a_startFrame a_changeFrame a_lostAt a_blackAt a_slips a_leftArc a_died a_arcs m_bestSum m_nearest m_nearestTown a_there a_backAt a_sorted a_parts m_seed1 m_darkNow), (cAI g a_tape 900 d_tape), (cAI g a_letters 8 d_letters2_83)] [(cAI g a_fresh 311 fa_97)] [1, 2, 3] [0] (m_commaX l g h0 m_thrown a_tape m_taped m_size m_at2_81 m_end2_82 m_token2_85 m_whole2_86 m_nameSize2_84 m_fault2_68 m_place2_69 m_trouble a_letters m_failed2_67 m_hasHouse a_r a_fresh a_st a_undone a_kept m_undos m_images a_from a_begin a_motor a_change a_startFrame a_changeFrame a_lostAt a_blackAt a_slips a_leftArc a_died a_arcs m_bestSum m_nearest m_nearestTown a_there a_backAt a_sorted a_parts m_seed1 m_darkNow d_tape d_letters2_83 (iv_w hv_m_size (zle_e rfl) (zle_e rfl)) (iv_w iv_88 (zle_e rfl) (zle_e rfl)) (iv_w iv_89 (zle_e rfl) (zle_e rfl)) (iv_w iv_77 (zle_e rfl) (zle_e rfl)) hk_93) dX11_showsLine_k2.2.1.1.2 mw603 mw604 mw605 mw5 mw606 rfl 11 rfl rfl 0 _ rfl yk_yX11_comma_0 rfl (Nat.le_of_ble_eq_true rfl) (Nat.le_of_ble_eq_true rfl) (Nat.le_of_ble_eq_true rfl) (Nat.le_of_ble_eq_true rfl) (Nat.le_of_ble_eq_true rfl) rfl rfl (vnd_e rfl) rfl (vnd_e rfl) (dsj_e rfl) ?_
          intro r_112 w zq
          refine exE6 zq ?_
          clear zq
          intro m_at2_106 m_end2_107 d_letters2_108 m_nameSize2_109 m_token2_110 m_whole2_111 iv_113 zq
          refine exA5 zq ?_
          clear zq
          intro iv_114 iv_115 hq_116 hq_117 hk_118 zq
          subst zq
          refine k_ws [(cAI g a_fresh 311 fa_97), (cO11_i1r1i10r1i2r5i2r12i3r4i2 h0 m_thrown a_tape m_taped m_size m_at2_106 m_end2_107 m_token2_110 m_whole2_111 m_nameSize2_109 m_fault2_68 m_place2_69 m_trouble a_letters m_failed2_67 m_hasHouse a_r a_fresh a_st a_undone a_kept m_undos m_images a_from a_begin a_motor a_change a_startFrame a_changeFrame a_lostAt a_blackAt a_slips a_leftArc a_died a_arcs m_bestSum m_nearest m_nearestTown a_there a_backAt a_sorted a_parts m_seed1 m_darkNow), (cAI g a_tape 900 d_tape), (cAI g a_letters 8 d_letters2_108)] rfl ?_
          refine k_istore_n [(2, .int r_112), (1, .int z_103), (3, .int r_70), (0, .ref h0)] X dX11_showsLine_k2.2.1.2.1 (nlt_e rfl) rfl ?_
          refine k_goto 12 X dX11_showsLine_k2.2.1.2.2 (jp_e rfl) ?_
          refine k_lv [(2, .int r_112), (1, .int z_103), (0, .ref h0)] [0, 1, 3] rfl ?_
          refine k_sub [(cO11_i1r1i10r1i2r5i2r12i3r4i2 h0 m_thrown a_tape m_taped m_size m_at2_106 m_end2_107 m_token2_110 m_whole2_111 m_nameSize2_109 m_fault2_68 m_place2_69 m_trouble a_letters m_failed2_67 m_hasHouse a_r a_fresh a_st a_undone a_kept m_undos m_images a_from a_begin a_motor a_change a_startFrame a_changeFrame a_lostAt a_blackAt a_slips a_leftArc a_died a_arcs m_bestSum m_nearest m_nearestTown a_there a_backAt a_sorted a_parts m_seed1 m_darkNow), (cAI g a_tape 900 d_tape), (cAI g a_letters 8 d_letters2_108), (cAI g a_fresh 311 fa_97)] [1, 2, 3, 0] rfl (by decide) rfl ?_
          exact ih_26 _ (by omega) fa_97 d_letters2_108 z_103 r_112 m_place2_69 m_failed2_67 m_at2_106 m_end2_107 m_token2_110 m_whole2_111 m_nameSize2_109 m_fault2_68 rfl hR_98 hT_102 (iv_w iv_105 (zle_e rfl) (zle_e rfl)) (iv_w iv_115 (zle_e rfl) (zle_e rfl)) (iv_w iv_77 (zle_e rfl) (zle_e rfl)) (iv_w iv_113 (zle_e rfl) (zle_e rfl)) (iv_w iv_114 (zle_e rfl) (zle_e rfl)) hk_118 (by omega) (fun m_at2 m_end2 m_failed2 m_fault2 d_fresh2 d_letters2 m_nameSize2 m_place2 m_token2 m_whole2 h => h.elim (fun n_0 q => (KH_0 _ _ _ _ _ _ _ _ _ _ ⟨n_0 + 1, (Or.inr ⟨h_27, ⟨m_failed2_67, m_fault2_68, m_place2_69, r_70, hq_73, (Or.inr ⟨h_74, (Or.inl ⟨h_78, ⟨m_at2_81, m_end2_82, d_letters2_83, m_nameSize2_84, m_token2_85, m_whole2_86, hq_92, ⟨z_94, ez_94, ⟨fa_97, eq_101, ⟨z_103, ez_103, ⟨m_at2_106, m_end2_107, d_letters2_108, m_nameSize2_109, m_token2_110, m_whole2_111, r_112, hq_117, q⟩⟩⟩⟩⟩⟩)⟩)⟩⟩)⟩)))
        · skip
          have iv_119 : IV u_7 8 8 := iv_meet hv_8 (iv_e h_78 iq_8_8_8) (zle_o rfl) (zle_o rfl)
          refine k_aload_n X dX11_showsLine_k1.1.2.1.2 3 rfl ?_
          refine k_iconst (v := 5) X dX11_showsLine_k1.1.2.2.1 ic_5 ?_
          refine k_aload_n X dX11_showsLine_k1.1.2.2.2 3 rfl ?_
          refine k_get (ci := 11) X inlX11 rfl 4 (nlt_e rfl) dX11_showsLine_k1.2.1.1.1 mw473 1 rfl rfl ?_
          refine k_callVV (n := 2) (As := [.int 5, .int u_14]) (st := []) X [(cO11_i1r1i10r1i2r5i2r12i3r4i2 h0 m_thrown a_tape m_taped m_size u_14 u_15 u_17 u_18 u_19 m_fault2_68 m_place2_69 m_trouble a_letters m_failed2_67 m_hasHouse a_r a_fresh a_st a_undone a_kept m_undos m_images a_from a_begin a_motor a_change a_startFrame a_changeFrame a_lostAt a_blackAt a_slips a_leftArc a_died a_arcs m_bestSum m_nearest m_nearestTown a_there a_backAt a_sorted a_parts m_seed1 m_darkNow)] [(cAI g a_tape 900 d_tape), (cAI g a_letters 8 uf_6), (cAI g a_fresh 311 uf_3)] [1] [0, 2, 3] (m_badX l g h0 5 u_14 m_thrown a_tape m_taped m_size u_14 u_15 u_17 u_18 u_19 m_fault2_68 m_place2_69 m_trouble a_letters m_failed2_67 m_hasHouse a_r a_fresh a_st a_undone a_kept m_undos m_images a_from a_begin a_motor a_change a_startFrame a_changeFrame a_lostAt a_blackAt a_slips a_leftArc a_died a_arcs m_bestSum m_nearest m_nearestTown a_there a_backAt a_sorted a_parts m_seed1 m_darkNow (iv_w iv_77 (zle_e rfl) (zle_e rfl))) dX11_showsLine_k1.2.1.1.2 mw519 mw520 mw521 mw5 mw522 rfl 11 rfl rfl 0 _ rfl yk_yX11_bad_2 rfl (Nat.le_of_ble_eq_true rfl) (Nat.le_of_ble_eq_true rfl) (Nat.le_of_ble_eq_true rfl) (Nat.le_of_ble_eq_true rfl) (Nat.le_of_ble_eq_true rfl) rfl rfl (vnd_e rfl) rfl (vnd_e rfl) (dsj_e rfl) ?_
          rintro w ⟨m_failed2_120, m_fault2_121, m_place2_122, iv_124, hq_125, rfl⟩
          refine k_ws [(cAI g a_tape 900 d_tape), (cAI g a_letters 8 uf_6), (cAI g a_fresh 311 uf_3), (cO11_i1r1i10r1i2r5i2r12i3r4i2 h0 m_thrown a_tape m_taped m_size u_14 u_15 u_17 u_18 u_19 m_fault2_121 m_place2_122 m_trouble a_letters m_failed2_120 m_hasHouse a_r a_fresh a_st a_undone a_kept m_undos m_images a_from a_begin a_motor a_change a_startFrame a_changeFrame a_lostAt a_blackAt a_slips a_leftArc a_died a_arcs m_bestSum m_nearest m_nearestTown a_there a_backAt a_sorted a_parts m_seed1 m_darkNow)] rfl ?_
          refine k_aload_n X dX11_showsLine_k1.2.1.2.1 3 rfl ?_
          refine k_get (ci := 11) X inlX11 rfl 13 (nlt_e rfl) dX11_showsLine_k1.2.1.2.2 mw469 3 rfl rfl ?_
          refine k_if_eq 54 X dX11_showsLine_k1.2.2.1.1 (jp_e rfl) (fun h_126 => (iv_eqN h_126 iv_124 iq_0_0_0 (by decide)).elim) (fun h_126 => ?_)
          exact k_vret X hr dX11_showsLine_k1.2.2.1.2 (Nat.le_of_ble_eq_true rfl) (Nat.le_of_ble_eq_true rfl) [3, 0, 1, 2] (vnd_e rfl) rfl rfl ⟨u_14, u_15, m_failed2_120, m_fault2_121, uf_3, uf_6, u_19, m_place2_122, u_17, u_18, (iv_w hv_16 (zle_e rfl) (zle_e rfl)), (iv_w iv_124 (zle_e rfl) (zle_e rfl)), (iv_w hv_20 (zle_e rfl) (zle_e rfl)), hp_4, (by omega), hT_5, (KH_0 _ _ _ _ _ _ _ _ _ _ ⟨0 + 1, (Or.inr ⟨h_27, ⟨m_failed2_67, m_fault2_68, m_place2_69, r_70, hq_73, (Or.inr ⟨h_74, (Or.inr ⟨h_78, ⟨m_failed2_120, m_fault2_121, m_place2_122, hq_125, ⟨rfl, rfl, rfl, rfl, rfl, rfl, rfl, rfl, rfl, rfl⟩⟩⟩)⟩)⟩⟩)⟩), hx_22, rfl⟩
  · skip
    have iv_127 : IV m_failed 1 1 := iv_neL h_1 hv_m_failed iq_0_0_0 (zle_e rfl)
    exact k_vret X hr dX11_showsLine_k0.1.1.2.2 (Nat.le_of_ble_eq_true rfl) (Nat.le_of_ble_eq_true rfl) [0, 1, 2, 3] (vnd_e rfl) rfl rfl ⟨m_at, m_end, m_failed, m_fault, d_fresh, d_letters, m_nameSize, m_place, m_token, m_whole, (iv_w hv_m_end (zle_e rfl) (zle_e rfl)), (iv_w iv_127 (zle_e rfl) (zle_e rfl)), (iv_w hv_m_nameSize (zle_e rfl) (zle_e rfl)), hp_d_fresh, (by omega), hr_0, (Or.inr ⟨h_1, ⟨rfl, rfl, rfl, rfl, rfl, rfl, rfl, rfl, rfl, rfl⟩⟩), hc_0, rfl⟩


set_option maxHeartbeats 4000000 in
set_option maxRecDepth 100000 in
theorem m_boysLineX (l : Launch) (g : Gx) (h0 : Nat) (m_thrown : Int32) (a_tape : Nat) (m_taped : Int32) (m_size : Int32) (m_at : Int32) (m_end : Int32) (m_token : Int32) (m_whole : Int32) (m_nameSize : Int32) (m_fault : Int32) (m_place : Int32) (m_trouble : Int32) (a_letters : Nat) (m_failed : Int32) (m_hasHouse : Int32) (a_r : Nat) (a_fresh : Nat) (a_st : Nat) (a_undone : Nat) (a_kept : Nat) (m_undos : Int32) (m_images : Int32) (a_from : Nat) (a_begin : Nat) (a_motor : Nat) (a_change : Nat) (a_startFrame : Nat) (a_changeFrame : Nat) (a_lostAt : Nat) (a_blackAt : Nat) (a_slips : Nat) (a_leftArc : Nat) (a_died : Nat) (a_arcs : Nat) (m_bestSum : Int32) (m_nearest : Int32) (m_nearestTown : Int32) (a_there : Nat) (a_backAt : Nat) (a_sorted : Nat) (a_parts : Nat) (m_seed1 : Int32) (m_darkNow : Int32) (d_tape : Nat → Int32) (d_letters : Nat → Int32) (d_fresh : Nat → Int32) (hv_m_size : IV m_size 0 900) (hv_m_end : IV m_end 0 900) (hv_m_nameSize : IV m_nameSize 0 900) (hv_m_failed : IV m_failed 0 1) (hp_d_fresh : RInv d_fresh) (hr_0 : TRI d_fresh) (hc_0 : m_token = 2 → IV m_nameSize 0 8) : cV l g yX11_boysLine cX11_boysLine 2 8 173 0 0 [.ref h0] [(cO11_i1r1i10r1i2r5i2r12i3r4i2 h0 m_thrown a_tape m_taped m_size m_at m_end m_token m_whole m_nameSize m_fault m_place m_trouble a_letters m_failed m_hasHouse a_r a_fresh a_st a_undone a_kept m_undos m_images a_from a_begin a_motor a_change a_startFrame a_changeFrame a_lostAt a_blackAt a_slips a_leftArc a_died a_arcs m_bestSum m_nearest m_nearestTown a_there a_backAt a_sorted a_parts m_seed1 m_darkNow), (cAI g a_tape 900 d_tape), (cAI g a_letters 8 d_letters), (cAI g a_fresh 311 d_fresh)] (fun w => ∃ (m_at2 : Int32) (m_end2 : Int32) (m_failed2 : Int32) (m_fault2 : Int32) (d_fresh2 : Nat → Int32) (d_letters2 : Nat → Int32) (m_nameSize2 : Int32) (m_place2 : Int32) (m_token2 : Int32) (m_whole2 : Int32), IV m_end2 0 900 ∧ IV m_failed2 0 1 ∧ IV m_nameSize2 0 900 ∧ RInv d_fresh2 ∧ (m_end.toInt ≤ m_end2.toInt) ∧ (TRI d_fresh2) ∧ (R_m_boysLineX m_size m_at m_end m_token m_whole m_nameSize m_fault m_place m_failed d_tape d_letters d_fresh m_at2 m_end2 m_failed2 m_fault2 d_fresh2 d_letters2 m_nameSize2 m_place2 m_token2 m_whole2) ∧ (m_token2 = 2 → IV m_nameSize2 0 8) ∧ w = [(cO11_i1r1i10r1i2r5i2r12i3r4i2 h0 m_thrown a_tape m_taped m_size m_at2 m_end2 m_token2 m_whole2 m_nameSize2 m_fault2 m_place2 m_trouble a_letters m_failed2 m_hasHouse a_r a_fresh a_st a_undone a_kept m_undos m_images a_from a_begin a_motor a_change a_startFrame a_changeFrame a_lostAt a_blackAt a_slips a_leftArc a_died a_arcs m_bestSum m_nearest m_nearestTown a_there a_backAt a_sorted a_parts m_seed1 m_darkNow), (cAI g a_tape 900 d_tape), (cAI g a_letters 8 d_letters2), (cAI g a_fresh 311 d_fresh2)]) := by
  refine cV.of (by decide) (Nat.le_of_ble_eq_true rfl) ?_
  intro p e s m args below meth c A X hr hi
  refine k_lveq [(0, .ref h0)] rfl ?_
  refine k_aload_n X dX11_boysLine_k0.1.1.1.1 0 rfl ?_
  refine k_get (ci := 11) X inlX11 rfl 13 (nlt_e rfl) dX11_boysLine_k0.1.1.1.2 mw469 0 rfl rfl ?_
  refine k_if_eq 8 X dX11_boysLine_k0.1.1.2.1 (jp_e rfl) (fun h_1 => ?_) (fun h_1 => ?_)
  · skip
    have iv_2 : IV m_failed 0 0 := iv_meet hv_m_failed (iv_e h_1 iq_0_0_0) (zle_o rfl) (zle_o rfl)
    refine k_aload_n X dX11_boysLine_k0.1.2.1.1 0 rfl ?_
    refine k_iconst (v := 1) X dX11_boysLine_k0.1.2.1.2 ic_1 ?_
    refine k_iconst (v := 4) X dX11_boysLine_k0.1.2.2.1 ic_4 ?_
    refine k_callVI (n := 2) (As := [.int 1, .int 4]) (st := []) X [(cO11_i1r1i10r1i2r5i2r12i3r4i2 h0 m_thrown a_tape m_taped m_size m_at m_end m_token m_whole m_nameSize m_fault m_place m_trouble a_letters m_failed m_hasHouse a_r a_fresh a_st a_undone a_kept m_undos m_images a_from a_begin a_motor a_change a_startFrame a_changeFrame a_lostAt a_blackAt a_slips a_leftArc a_died a_arcs m_bestSum m_nearest m_nearestTown a_there a_backAt a_sorted a_parts m_seed1 m_darkNow), (cAI g a_tape 900 d_tape), (cAI g a_letters 8 d_letters)] [(cAI g a_fresh 311 d_fresh)] [0, 1, 2] [3] (m_numberX l g h0 1 4 m_thrown a_tape m_taped m_size m_at m_end m_token m_whole m_nameSize m_fault m_place m_trouble a_letters m_failed m_hasHouse a_r a_fresh a_st a_undone a_kept m_undos m_images a_from a_begin a_motor a_change a_startFrame a_changeFrame a_lostAt a_blackAt a_slips a_leftArc a_died a_arcs m_bestSum m_nearest m_nearestTown a_there a_backAt a_sorted a_parts m_seed1 m_darkNow d_tape d_letters (iv_w hv_m_size (zle_e rfl) (zle_e rfl)) (iv_w hv_m_end (zle_e rfl) (zle_e rfl)) (iv_w hv_m_nameSize (zle_e rfl) (zle_e rfl)) (iv_w iv_2 (zle_e rfl) (zle_e rfl)) hc_0) dX11_boysLine_k0.1.2.2.2 mw535 mw536 mw537 mw5 mw538 rfl 11 rfl rfl 0 _ rfl yk_yX11_number_2 rfl (Nat.le_of_ble_eq_true rfl) (Nat.le_of_ble_eq_true rfl) (Nat.le_of_ble_eq_true rfl) (Nat.le_of_ble_eq_true rfl) (Nat.le_of_ble_eq_true rfl) rfl rfl (vnd_e rfl) rfl (vnd_e rfl) (dsj_e rfl) ?_
    intro r_12 w zq
    refine exE9 zq ?_
    clear zq
    intro m_at2_3 m_end2_4 m_failed2_5 m_fault2_6 d_letters2_7 m_nameSize2_8 m_place2_9 m_token2_10 m_whole2_11 iv_13 zq
    refine exA6 zq ?_
    clear zq
    intro iv_14 iv_15 hq_16 hq_17 hq_18 hk_19 zq
    subst zq
    refine k_ws [(cAI g a_fresh 311 d_fresh), (cO11_i1r1i10r1i2r5i2r12i3r4i2 h0 m_thrown a_tape m_taped m_size m_at2_3 m_end2_4 m_token2_10 m_whole2_11 m_nameSize2_8 m_fault2_6 m_place2_9 m_trouble a_letters m_failed2_5 m_hasHouse a_r a_fresh a_st a_undone a_kept m_undos m_images a_from a_begin a_motor a_change a_startFrame a_changeFrame a_lostAt a_blackAt a_slips a_leftArc a_died a_arcs m_bestSum m_nearest m_nearestTown a_there a_backAt a_sorted a_parts m_seed1 m_darkNow), (cAI g a_tape 900 d_tape), (cAI g a_letters 8 d_letters2_7)] rfl ?_
    have e_20 : (1 : Int32).toInt = 1 := by decide
    have e_21 : (4 : Int32).toInt = 4 := by decide
    have iv_22 : IV r_12 1 4 := by have := iq_1_1_1; have := iq_4_4_4; rw [IV]; omega
    refine k_istore_n [(1, .int r_12), (0, .ref h0)] X dX11_boysLine_k0.2.1.1.1 (nlt_e rfl) rfl ?_
    refine k_aload_n X dX11_boysLine_k0.2.1.1.2 1 rfl ?_
    refine k_get (ci := 11) X inlX11 rfl 16 (nlt_e rfl) dX11_boysLine_k0.2.1.2.1 mw171 1 rfl rfl ?_
    refine k_sipush (v := 135) X dX11_boysLine_k0.2.1.2.2 si_135 ?_
    refine k_aload_n X dX11_boysLine_k0.2.2.1.1 1 rfl ?_
    refine k_ldcwS (tx := "ride") X dX11_boysLine_k0.2.2.1.2 (by decide +kernel) (fun sr_23 hsr_23 => ?_)
    refine k_iconst (v := 1) X dX11_boysLine_k0.2.2.2.1 ic_1 ?_
    refine k_sipush (v := 2000) X dX11_boysLine_k0.2.2.2.2 si_2000 ?_
    refine k_callVI (n := 3) (As := [.ref sr_23, .int 1, .int 2000]) (st := [.int 135, .ref a_fresh]) X [(cO11_i1r1i10r1i2r5i2r12i3r4i2 h0 m_thrown a_tape m_taped m_size m_at2_3 m_end2_4 m_token2_10 m_whole2_11 m_nameSize2_8 m_fault2_6 m_place2_9 m_trouble a_letters m_failed2_5 m_hasHouse a_r a_fresh a_st a_undone a_kept m_undos m_images a_from a_begin a_motor a_change a_startFrame a_changeFrame a_lostAt a_blackAt a_slips a_leftArc a_died a_arcs m_bestSum m_nearest m_nearestTown a_there a_backAt a_sorted a_parts m_seed1 m_darkNow), (cAI g a_tape 900 d_tape), (cAI g a_letters 8 d_letters2_7)] [(cAI g a_fresh 311 d_fresh)] [1, 2, 3] [0] (m_afterX l g h0 sr_23 1 2000 m_thrown a_tape m_taped m_size m_at2_3 m_end2_4 m_token2_10 m_whole2_11 m_nameSize2_8 m_fault2_6 m_place2_9 m_trouble a_letters m_failed2_5 m_hasHouse a_r a_fresh a_st a_undone a_kept m_undos m_images a_from a_begin a_motor a_change a_startFrame a_changeFrame a_lostAt a_blackAt a_slips a_leftArc a_died a_arcs m_bestSum m_nearest m_nearestTown a_there a_backAt a_sorted a_parts m_seed1 m_darkNow d_tape d_letters2_7 ("ride") (iv_w hv_m_size (zle_e rfl) (zle_e rfl)) (iv_w iv_13 (zle_e rfl) (zle_e rfl)) (iv_w iv_15 (zle_e rfl) (zle_e rfl)) (iv_w iv_14 (zle_e rfl) (zle_e rfl)) hsr_23 hk_19) dX11_boysLine_k1.1.1.1.1 mw523 mw524 mw525 mw5 mw526 rfl 11 rfl rfl 0 _ rfl yk_yX11_after_3 rfl (Nat.le_of_ble_eq_true rfl) (Nat.le_of_ble_eq_true rfl) (Nat.le_of_ble_eq_true rfl) (Nat.le_of_ble_eq_true rfl) (Nat.le_of_ble_eq_true rfl) rfl rfl (vnd_e rfl) rfl (vnd_e rfl) (dsj_e rfl) ?_
    intro r_33 w zq
    refine exE9 zq ?_
    clear zq
    intro m_at2_24 m_end2_25 m_failed2_26 m_fault2_27 d_letters2_28 m_nameSize2_29 m_place2_30 m_token2_31 m_whole2_32 iv_34 zq
    refine exA6 zq ?_
    clear zq
    intro iv_35 iv_36 hq_37 hq_38 hq_39 hk_40 zq
    subst zq
    refine k_ws [(cAI g a_fresh 311 d_fresh), (cO11_i1r1i10r1i2r5i2r12i3r4i2 h0 m_thrown a_tape m_taped m_size m_at2_24 m_end2_25 m_token2_31 m_whole2_32 m_nameSize2_29 m_fault2_27 m_place2_30 m_trouble a_letters m_failed2_26 m_hasHouse a_r a_fresh a_st a_undone a_kept m_undos m_images a_from a_begin a_motor a_change a_startFrame a_changeFrame a_lostAt a_blackAt a_slips a_leftArc a_died a_arcs m_bestSum m_nearest m_nearestTown a_there a_backAt a_sorted a_parts m_seed1 m_darkNow), (cAI g a_tape 900 d_tape), (cAI g a_letters 8 d_letters2_28)] rfl ?_
    have e_41 : (1 : Int32).toInt = 1 := by decide
    have e_42 : (2000 : Int32).toInt = 2000 := by decide
    have iv_43 : IV r_33 1 2000 := by have := iq_1_1_1; have := iq_2000_2000_2000; rw [IV]; omega
    refine k_iast [(cAI g a_fresh 311 (upd d_fresh (135 : Int32).toNatClampNeg r_33)), (cO11_i1r1i10r1i2r5i2r12i3r4i2 h0 m_thrown a_tape m_taped m_size m_at2_24 m_end2_25 m_token2_31 m_whole2_32 m_nameSize2_29 m_fault2_27 m_place2_30 m_trouble a_letters m_failed2_26 m_hasHouse a_r a_fresh a_st a_undone a_kept m_undos m_images a_from a_begin a_motor a_change a_startFrame a_changeFrame a_lostAt a_blackAt a_slips a_leftArc a_died a_arcs m_bestSum m_nearest m_nearestTown a_there a_backAt a_sorted a_parts m_seed1 m_darkNow), (cAI g a_tape 900 d_tape), (cAI g a_letters 8 d_letters2_28)] X dX11_boysLine_k1.1.1.1.2 0 rfl (by unfold vp_in; decide) rfl ?_
    refine (fun hg : ∀ fa_44 : Nat → Int32, fa_44 = upd d_fresh (135 : Int32).toNatClampNeg r_33 → RInv fa_44 → K16 d_fresh fa_44 → Wk p l e _ s m args below meth c _ A g _ _ _ [(cAI g a_fresh 311 fa_44), (cO11_i1r1i10r1i2r5i2r12i3r4i2 h0 m_thrown a_tape m_taped m_size m_at2_24 m_end2_25 m_token2_31 m_whole2_32 m_nameSize2_29 m_fault2_27 m_place2_30 m_trouble a_letters m_failed2_26 m_hasHouse a_r a_fresh a_st a_undone a_kept m_undos m_images a_from a_begin a_motor a_change a_startFrame a_changeFrame a_lostAt a_blackAt a_slips a_leftArc a_died a_arcs m_bestSum m_nearest m_nearestTown a_there a_backAt a_sorted a_parts m_seed1 m_darkNow), (cAI g a_tape 900 d_tape), (cAI g a_letters 8 d_letters2_28)] _ _ _ => hg _ rfl (w_fr_135 hp_d_fresh) (k16_u (z := 135) (by have := iq_135_135_135; omega))) (fun fa_44 eq_47 hR_45 hk_46 => ?_)
    have hT_48 : TRI fa_44 := by rw [eq_47]; exact tri_n (z := 135) hr_0 hp_d_fresh (by decide) (by decide) (by decide) (by decide)
    refine k_aload_n X dX11_boysLine_k1.1.1.2.1 1 rfl ?_
    refine k_get (ci := 11) X inlX11 rfl 16 (nlt_e rfl) dX11_boysLine_k1.1.1.2.2 mw171 1 rfl rfl ?_
    refine k_sipush (v := 136) X dX11_boysLine_k1.1.2.1.1 si_136 ?_
    refine k_aload_n X dX11_boysLine_k1.1.2.1.2 1 rfl ?_
    refine k_ldcwS (tx := "falls") X dX11_boysLine_k1.1.2.2.1 (by decide +kernel) (fun sr_49 hsr_49 => ?_)
    refine k_iconst (v := 0) X dX11_boysLine_k1.1.2.2.2 ic_0 ?_
    refine k_bipush (v := 50) X dX11_boysLine_k1.2.1.1.1 bi_50 ?_
    refine k_callVI (n := 3) (As := [.ref sr_49, .int 0, .int 50]) (st := [.int 136, .ref a_fresh]) X [(cO11_i1r1i10r1i2r5i2r12i3r4i2 h0 m_thrown a_tape m_taped m_size m_at2_24 m_end2_25 m_token2_31 m_whole2_32 m_nameSize2_29 m_fault2_27 m_place2_30 m_trouble a_letters m_failed2_26 m_hasHouse a_r a_fresh a_st a_undone a_kept m_undos m_images a_from a_begin a_motor a_change a_startFrame a_changeFrame a_lostAt a_blackAt a_slips a_leftArc a_died a_arcs m_bestSum m_nearest m_nearestTown a_there a_backAt a_sorted a_parts m_seed1 m_darkNow), (cAI g a_tape 900 d_tape), (cAI g a_letters 8 d_letters2_28)] [(cAI g a_fresh 311 fa_44)] [1, 2, 3] [0] (m_afterX l g h0 sr_49 0 50 m_thrown a_tape m_taped m_size m_at2_24 m_end2_25 m_token2_31 m_whole2_32 m_nameSize2_29 m_fault2_27 m_place2_30 m_trouble a_letters m_failed2_26 m_hasHouse a_r a_fresh a_st a_undone a_kept m_undos m_images a_from a_begin a_motor a_change a_startFrame a_changeFrame a_lostAt a_blackAt a_slips a_leftArc a_died a_arcs m_bestSum m_nearest m_nearestTown a_there a_backAt a_sorted a_parts m_seed1 m_darkNow d_tape d_letters2_28 ("falls") (iv_w hv_m_size (zle_e rfl) (zle_e rfl)) (iv_w iv_34 (zle_e rfl) (zle_e rfl)) (iv_w iv_36 (zle_e rfl) (zle_e rfl)) (iv_w iv_35 (zle_e rfl) (zle_e rfl)) hsr_49 hk_40) dX11_boysLine_k1.2.1.1.2 mw523 mw524 mw525 mw5 mw526 rfl 11 rfl rfl 0 _ rfl yk_yX11_after_3 rfl (Nat.le_of_ble_eq_true rfl) (Nat.le_of_ble_eq_true rfl) (Nat.le_of_ble_eq_true rfl) (Nat.le_of_ble_eq_true rfl) (Nat.le_of_ble_eq_true rfl) rfl rfl (vnd_e rfl) rfl (vnd_e rfl) (dsj_e rfl) ?_
    intro r_59 w zq
    refine exE9 zq ?_
    clear zq
    intro m_at2_50 m_end2_51 m_failed2_52 m_fault2_53 d_letters2_54 m_nameSize2_55 m_place2_56 m_token2_57 m_whole2_58 iv_60 zq
    refine exA6 zq ?_
    clear zq
    intro iv_61 iv_62 hq_63 hq_64 hq_65 hk_66 zq
    subst zq
    refine k_ws [(cAI g a_fresh 311 fa_44), (cO11_i1r1i10r1i2r5i2r12i3r4i2 h0 m_thrown a_tape m_taped m_size m_at2_50 m_end2_51 m_token2_57 m_whole2_58 m_nameSize2_55 m_fault2_53 m_place2_56 m_trouble a_letters m_failed2_52 m_hasHouse a_r a_fresh a_st a_undone a_kept m_undos m_images a_from a_begin a_motor a_change a_startFrame a_changeFrame a_lostAt a_blackAt a_slips a_leftArc a_died a_arcs m_bestSum m_nearest m_nearestTown a_there a_backAt a_sorted a_parts m_seed1 m_darkNow), (cAI g a_tape 900 d_tape), (cAI g a_letters 8 d_letters2_54)] rfl ?_
    have e_67 : (0 : Int32).toInt = 0 := by decide
    have e_68 : (50 : Int32).toInt = 50 := by decide
    have iv_69 : IV r_59 0 50 := by have := iq_0_0_0; have := iq_50_50_50; rw [IV]; omega
    refine k_iast [(cAI g a_fresh 311 (upd fa_44 (136 : Int32).toNatClampNeg r_59)), (cO11_i1r1i10r1i2r5i2r12i3r4i2 h0 m_thrown a_tape m_taped m_size m_at2_50 m_end2_51 m_token2_57 m_whole2_58 m_nameSize2_55 m_fault2_53 m_place2_56 m_trouble a_letters m_failed2_52 m_hasHouse a_r a_fresh a_st a_undone a_kept m_undos m_images a_from a_begin a_motor a_change a_startFrame a_changeFrame a_lostAt a_blackAt a_slips a_leftArc a_died a_arcs m_bestSum m_nearest m_nearestTown a_there a_backAt a_sorted a_parts m_seed1 m_darkNow), (cAI g a_tape 900 d_tape), (cAI g a_letters 8 d_letters2_54)] X dX11_boysLine_k1.2.1.2.1 0 rfl (by unfold vp_in; decide) rfl ?_
    refine (fun hg : ∀ fa_70 : Nat → Int32, fa_70 = upd fa_44 (136 : Int32).toNatClampNeg r_59 → RInv fa_70 → K16 fa_44 fa_70 → Wk p l e _ s m args below meth c _ A g _ _ _ [(cAI g a_fresh 311 fa_70), (cO11_i1r1i10r1i2r5i2r12i3r4i2 h0 m_thrown a_tape m_taped m_size m_at2_50 m_end2_51 m_token2_57 m_whole2_58 m_nameSize2_55 m_fault2_53 m_place2_56 m_trouble a_letters m_failed2_52 m_hasHouse a_r a_fresh a_st a_undone a_kept m_undos m_images a_from a_begin a_motor a_change a_startFrame a_changeFrame a_lostAt a_blackAt a_slips a_leftArc a_died a_arcs m_bestSum m_nearest m_nearestTown a_there a_backAt a_sorted a_parts m_seed1 m_darkNow), (cAI g a_tape 900 d_tape), (cAI g a_letters 8 d_letters2_54)] _ _ _ => hg _ rfl (w_fr_136 hR_45) (k16_u (z := 136) (by have := iq_136_136_136; omega))) (fun fa_70 eq_73 hR_71 hk_72 => ?_)
    have hT_74 : TRI fa_70 := by rw [eq_73]; exact tri_n (z := 136) hT_48 hR_45 (by decide) (by decide) (by decide) (by decide)
    refine k_aload_n X dX11_boysLine_k1.2.1.2.2 1 rfl ?_
    refine k_get (ci := 11) X inlX11 rfl 13 (nlt_e rfl) dX11_boysLine_k1.2.2.1.1 mw469 1 rfl rfl ?_
    refine k_if_ne 68 X dX11_boysLine_k1.2.2.1.2 (jp_e rfl) (fun h_75 => ?_) (fun h_75 => ?_)
    · skip
      have iv_76 : IV m_failed2_52 1 1 := iv_neL h_75 iv_61 iq_0_0_0 (zle_e rfl)
      exact k_vret X hr dX11_boysLine_k2.2.2 (Nat.le_of_ble_eq_true rfl) (Nat.le_of_ble_eq_true rfl) [1, 2, 3, 0] (vnd_e rfl) rfl rfl ⟨m_at2_50, m_end2_51, m_failed2_52, m_fault2_53, fa_70, d_letters2_54, m_nameSize2_55, m_place2_56, m_token2_57, m_whole2_58, (iv_w iv_60 (zle_e rfl) (zle_e rfl)), (iv_w iv_76 (zle_e rfl) (zle_e rfl)), (iv_w iv_62 (zle_e rfl) (zle_e rfl)), hR_71, (by omega), hT_74, (Or.inl ⟨h_1, ⟨m_at2_3, m_end2_4, m_failed2_5, m_fault2_6, d_letters2_7, m_nameSize2_8, m_place2_9, m_token2_10, m_whole2_11, r_12, hq_18, ⟨m_at2_24, m_end2_25, m_failed2_26, m_fault2_27, d_letters2_28, m_nameSize2_29, m_place2_30, m_token2_31, m_whole2_32, r_33, hq_39, ⟨fa_44, eq_47, ⟨m_at2_50, m_end2_51, m_failed2_52, m_fault2_53, d_letters2_54, m_nameSize2_55, m_place2_56, m_token2_57, m_whole2_58, r_59, hq_65, ⟨fa_70, eq_73, (Or.inl ⟨h_75, ⟨rfl, rfl, rfl, rfl, rfl, rfl, rfl, rfl, rfl, rfl⟩⟩)⟩⟩⟩⟩⟩⟩), hk_66, rfl⟩
    · skip
      have iv_77 : IV m_failed2_52 0 0 := iv_meet iv_61 (iv_e h_75 iq_0_0_0) (zle_o rfl) (zle_o rfl)
      refine k_aload_n X dX11_boysLine_k1.2.2.2.1 1 rfl ?_
      refine k_get (ci := 11) X inlX11 rfl 16 (nlt_e rfl) dX11_boysLine_k1.2.2.2.2 mw171 1 rfl rfl ?_
      refine k_sipush (v := 134) X dX11_boysLine_k2.1.1 si_134 ?_
      refine k_iload_n X dX11_boysLine_k2.1.2 0 rfl ?_
      refine k_iast [(cAI g a_fresh 311 (upd fa_70 (134 : Int32).toNatClampNeg r_12)), (cO11_i1r1i10r1i2r5i2r12i3r4i2 h0 m_thrown a_tape m_taped m_size m_at2_50 m_end2_51 m_token2_57 m_whole2_58 m_nameSize2_55 m_fault2_53 m_place2_56 m_trouble a_letters m_failed2_52 m_hasHouse a_r a_fresh a_st a_undone a_kept m_undos m_images a_from a_begin a_motor a_change a_startFrame a_changeFrame a_lostAt a_blackAt a_slips a_leftArc a_died a_arcs m_bestSum m_nearest m_nearestTown a_there a_backAt a_sorted a_parts m_seed1 m_darkNow), (cAI g a_tape 900 d_tape), (cAI g a_letters 8 d_letters2_54)] X dX11_boysLine_k2.2.1 0 rfl (by unfold vp_in; decide) rfl ?_
      refine (fun hg : ∀ fa_78 : Nat → Int32, fa_78 = upd fa_70 (134 : Int32).toNatClampNeg r_12 → RInv fa_78 → K16 fa_70 fa_78 → Wk p l e _ s m args below meth c _ A g _ _ _ [(cAI g a_fresh 311 fa_78), (cO11_i1r1i10r1i2r5i2r12i3r4i2 h0 m_thrown a_tape m_taped m_size m_at2_50 m_end2_51 m_token2_57 m_whole2_58 m_nameSize2_55 m_fault2_53 m_place2_56 m_trouble a_letters m_failed2_52 m_hasHouse a_r a_fresh a_st a_undone a_kept m_undos m_images a_from a_begin a_motor a_change a_startFrame a_changeFrame a_lostAt a_blackAt a_slips a_leftArc a_died a_arcs m_bestSum m_nearest m_nearestTown a_there a_backAt a_sorted a_parts m_seed1 m_darkNow), (cAI g a_tape 900 d_tape), (cAI g a_letters 8 d_letters2_54)] _ _ _ => hg _ rfl (w_rb_134 hR_71 (iv_w iv_22 (zle_e rfl) (zle_e rfl))) (k16_u (z := 134) (by have := iq_134_134_134; omega))) (fun fa_78 eq_81 hR_79 hk_80 => ?_)
      have hT_82 : TRI fa_78 := by rw [eq_81]; exact tri_n (z := 134) hT_74 hR_71 (by decide) (by decide) (by decide) (by decide)
      exact k_vret X hr dX11_boysLine_k2.2.2 (Nat.le_of_ble_eq_true rfl) (Nat.le_of_ble_eq_true rfl) [1, 2, 3, 0] (vnd_e rfl) rfl rfl ⟨m_at2_50, m_end2_51, m_failed2_52, m_fault2_53, fa_78, d_letters2_54, m_nameSize2_55, m_place2_56, m_token2_57, m_whole2_58, (iv_w iv_60 (zle_e rfl) (zle_e rfl)), (iv_w iv_77 (zle_e rfl) (zle_e rfl)), (iv_w iv_62 (zle_e rfl) (zle_e rfl)), hR_79, (by omega), hT_82, (Or.inl ⟨h_1, ⟨m_at2_3, m_end2_4, m_failed2_5, m_fault2_6, d_letters2_7, m_nameSize2_8, m_place2_9, m_token2_10, m_whole2_11, r_12, hq_18, ⟨m_at2_24, m_end2_25, m_failed2_26, m_fault2_27, d_letters2_28, m_nameSize2_29, m_place2_30, m_token2_31, m_whole2_32, r_33, hq_39, ⟨fa_44, eq_47, ⟨m_at2_50, m_end2_51, m_failed2_52, m_fault2_53, d_letters2_54, m_nameSize2_55, m_place2_56, m_token2_57, m_whole2_58, r_59, hq_65, ⟨fa_70, eq_73, (Or.inr ⟨h_75, ⟨fa_78, eq_81, ⟨rfl, rfl, rfl, rfl, rfl, rfl, rfl, rfl, rfl, rfl⟩⟩⟩)⟩⟩⟩⟩⟩⟩), hk_66, rfl⟩
  · skip
    have iv_83 : IV m_failed 1 1 := iv_neL h_1 hv_m_failed iq_0_0_0 (zle_e rfl)
    exact k_vret X hr dX11_boysLine_k0.1.1.2.2 (Nat.le_of_ble_eq_true rfl) (Nat.le_of_ble_eq_true rfl) [0, 1, 2, 3] (vnd_e rfl) rfl rfl ⟨m_at, m_end, m_failed, m_fault, d_fresh, d_letters, m_nameSize, m_place, m_token, m_whole, (iv_w hv_m_end (zle_e rfl) (zle_e rfl)), (iv_w iv_83 (zle_e rfl) (zle_e rfl)), (iv_w hv_m_nameSize (zle_e rfl) (zle_e rfl)), hp_d_fresh, (by omega), hr_0, (Or.inr ⟨h_1, ⟨rfl, rfl, rfl, rfl, rfl, rfl, rfl, rfl, rfl, rfl⟩⟩), hc_0, rfl⟩


set_option maxHeartbeats 4000000 in
set_option maxRecDepth 100000 in
theorem m_seenLineX (l : Launch) (g : Gx) (h0 : Nat) (m_thrown : Int32) (a_tape : Nat) (m_taped : Int32) (m_size : Int32) (m_at : Int32) (m_end : Int32) (m_token : Int32) (m_whole : Int32) (m_nameSize : Int32) (m_fault : Int32) (m_place : Int32) (m_trouble : Int32) (a_letters : Nat) (m_failed : Int32) (m_hasHouse : Int32) (a_r : Nat) (a_fresh : Nat) (a_st : Nat) (a_undone : Nat) (a_kept : Nat) (m_undos : Int32) (m_images : Int32) (a_from : Nat) (a_begin : Nat) (a_motor : Nat) (a_change : Nat) (a_startFrame : Nat) (a_changeFrame : Nat) (a_lostAt : Nat) (a_blackAt : Nat) (a_slips : Nat) (a_leftArc : Nat) (a_died : Nat) (a_arcs : Nat) (m_bestSum : Int32) (m_nearest : Int32) (m_nearestTown : Int32) (a_there : Nat) (a_backAt : Nat) (a_sorted : Nat) (a_parts : Nat) (m_seed1 : Int32) (m_darkNow : Int32) (d_tape : Nat → Int32) (d_letters : Nat → Int32) (d_fresh : Nat → Int32) (hv_m_size : IV m_size 0 900) (hv_m_end : IV m_end 0 900) (hv_m_nameSize : IV m_nameSize 0 900) (hv_m_failed : IV m_failed 0 1) (hp_d_fresh : RInv d_fresh) (hr_0 : TRI d_fresh) (hc_0 : m_token = 2 → IV m_nameSize 0 8) : cV l g yX11_seenLine cX11_seenLine 2 8 173 0 0 [.ref h0] [(cO11_i1r1i10r1i2r5i2r12i3r4i2 h0 m_thrown a_tape m_taped m_size m_at m_end m_token m_whole m_nameSize m_fault m_place m_trouble a_letters m_failed m_hasHouse a_r a_fresh a_st a_undone a_kept m_undos m_images a_from a_begin a_motor a_change a_startFrame a_changeFrame a_lostAt a_blackAt a_slips a_leftArc a_died a_arcs m_bestSum m_nearest m_nearestTown a_there a_backAt a_sorted a_parts m_seed1 m_darkNow), (cAI g a_tape 900 d_tape), (cAI g a_letters 8 d_letters), (cAI g a_fresh 311 d_fresh)] (fun w => ∃ (m_at2 : Int32) (m_end2 : Int32) (m_failed2 : Int32) (m_fault2 : Int32) (d_fresh2 : Nat → Int32) (d_letters2 : Nat → Int32) (m_nameSize2 : Int32) (m_place2 : Int32) (m_token2 : Int32) (m_whole2 : Int32), IV m_end2 0 900 ∧ IV m_failed2 0 1 ∧ IV m_nameSize2 0 900 ∧ RInv d_fresh2 ∧ (m_end.toInt ≤ m_end2.toInt) ∧ (TRI d_fresh2) ∧ (R_m_seenLineX m_size m_at m_end m_token m_whole m_nameSize m_fault m_place m_failed d_tape d_letters d_fresh m_at2 m_end2 m_failed2 m_fault2 d_fresh2 d_letters2 m_nameSize2 m_place2 m_token2 m_whole2) ∧ (m_token2 = 2 → IV m_nameSize2 0 8) ∧ w = [(cO11_i1r1i10r1i2r5i2r12i3r4i2 h0 m_thrown a_tape m_taped m_size m_at2 m_end2 m_token2 m_whole2 m_nameSize2 m_fault2 m_place2 m_trouble a_letters m_failed2 m_hasHouse a_r a_fresh a_st a_undone a_kept m_undos m_images a_from a_begin a_motor a_change a_startFrame a_changeFrame a_lostAt a_blackAt a_slips a_leftArc a_died a_arcs m_bestSum m_nearest m_nearestTown a_there a_backAt a_sorted a_parts m_seed1 m_darkNow), (cAI g a_tape 900 d_tape), (cAI g a_letters 8 d_letters2), (cAI g a_fresh 311 d_fresh2)]) := by
  refine cV.of (by decide) (Nat.le_of_ble_eq_true rfl) ?_
  intro p e s m args below meth c A X hr hi
  refine k_lveq [(0, .ref h0)] rfl ?_
  refine k_aload_n X dX11_seenLine_k0.1.1.1.1 0 rfl ?_
  refine k_get (ci := 11) X inlX11 rfl 16 (nlt_e rfl) dX11_seenLine_k0.1.1.1.2 mw171 0 rfl rfl ?_
  refine k_bipush (v := 13) X dX11_seenLine_k0.1.1.2.1 bi_13 ?_
  refine k_iald X dX11_seenLine_k0.1.1.2.2 3 rfl (by unfold vp_in; decide) ?_
  refine k_nm (fun z_1 ez_1 => ?_)
  have i_2 : z_1.toInt = (d_fresh 13).toInt := by rw [ez_1]; rfl
  have iv_3 : IV z_1 0 6 := rb_13 ez_1 hp_d_fresh
  refine k_bipush (v := 6) X dX11_seenLine_k0.1.2.1.1 bi_6 ?_
  refine k_ic_ne 21 X dX11_seenLine_k0.1.2.1.2 (jp_e rfl) (fun h_4 => ?_) (fun h_4 => ?_)
  · skip
    have iv_5 : IV z_1 0 5 := iv_neH h_4 iv_3 iq_6_6_6 (by decide)
    refine k_aload_n X dX11_seenLine_k0.2.1.2.2 0 rfl ?_
    refine k_get (ci := 11) X inlX11 rfl 16 (nlt_e rfl) dX11_seenLine_k0.2.2.1.1 mw171 0 rfl rfl ?_
    refine k_bipush (v := 15) X dX11_seenLine_k0.2.2.1.2 bi_15 ?_
    refine k_iald X dX11_seenLine_k0.2.2.2.1 3 rfl (by unfold vp_in; decide) ?_
    refine k_nm (fun z_6 ez_6 => ?_)
    refine k_if_eq 41 X dX11_seenLine_k0.2.2.2.2 (jp_e rfl) (fun h_7 => ?_) (fun h_7 => ?_)
    · skip
      have iv_8 : IV z_6 0 0 := iv_meet (iv_any z_6) (iv_e h_7 iq_0_0_0) (zle_o rfl) (zle_o rfl)
      refine k_aload_n X dX11_seenLine_k1.1.2.1.2 0 rfl ?_
      refine k_bipush (v := 6) X dX11_seenLine_k1.1.2.2.1 bi_6 ?_
      refine k_aload_n X dX11_seenLine_k1.1.2.2.2 0 rfl ?_
      refine k_get (ci := 11) X inlX11 rfl 4 (nlt_e rfl) dX11_seenLine_k1.2.1.1.1 mw473 0 rfl rfl ?_
      refine k_callVV (n := 2) (As := [.int 6, .int m_at]) (st := []) X [(cO11_i1r1i10r1i2r5i2r12i3r4i2 h0 m_thrown a_tape m_taped m_size m_at m_end m_token m_whole m_nameSize m_fault m_place m_trouble a_letters m_failed m_hasHouse a_r a_fresh a_st a_undone a_kept m_undos m_images a_from a_begin a_motor a_change a_startFrame a_changeFrame a_lostAt a_blackAt a_slips a_leftArc a_died a_arcs m_bestSum m_nearest m_nearestTown a_there a_backAt a_sorted a_parts m_seed1 m_darkNow)] [(cAI g a_tape 900 d_tape), (cAI g a_letters 8 d_letters), (cAI g a_fresh 311 d_fresh)] [0] [1, 2, 3] (m_badX l g h0 6 m_at m_thrown a_tape m_taped m_size m_at m_end m_token m_whole m_nameSize m_fault m_place m_trouble a_letters m_failed m_hasHouse a_r a_fresh a_st a_undone a_kept m_undos m_images a_from a_begin a_motor a_change a_startFrame a_changeFrame a_lostAt a_blackAt a_slips a_leftArc a_died a_arcs m_bestSum m_nearest m_nearestTown a_there a_backAt a_sorted a_parts m_seed1 m_darkNow (iv_w hv_m_failed (zle_e rfl) (zle_e rfl))) dX11_seenLine_k1.2.1.1.2 mw519 mw520 mw521 mw5 mw522 rfl 11 rfl rfl 0 _ rfl yk_yX11_bad_2 rfl (Nat.le_of_ble_eq_true rfl) (Nat.le_of_ble_eq_true rfl) (Nat.le_of_ble_eq_true rfl) (Nat.le_of_ble_eq_true rfl) (Nat.le_of_ble_eq_true rfl) rfl rfl (vnd_e rfl) rfl (vnd_e rfl) (dsj_e rfl) ?_
      rintro w ⟨m_failed2_9, m_fault2_10, m_place2_11, iv_13, hq_14, rfl⟩
      refine k_ws [(cAI g a_tape 900 d_tape), (cAI g a_letters 8 d_letters), (cAI g a_fresh 311 d_fresh), (cO11_i1r1i10r1i2r5i2r12i3r4i2 h0 m_thrown a_tape m_taped m_size m_at m_end m_token m_whole m_nameSize m_fault2_10 m_place2_11 m_trouble a_letters m_failed2_9 m_hasHouse a_r a_fresh a_st a_undone a_kept m_undos m_images a_from a_begin a_motor a_change a_startFrame a_changeFrame a_lostAt a_blackAt a_slips a_leftArc a_died a_arcs m_bestSum m_nearest m_nearestTown a_there a_backAt a_sorted a_parts m_seed1 m_darkNow)] rfl ?_
      refine k_aload_n X dX11_seenLine_k1.2.1.2.1 0 rfl ?_
      refine k_get (ci := 11) X inlX11 rfl 13 (nlt_e rfl) dX11_seenLine_k1.2.1.2.2 mw469 3 rfl rfl ?_
      refine k_if_eq 59 X dX11_seenLine_k1.2.2.1.1 (jp_e rfl) (fun h_15 => (iv_eqN h_15 iv_13 iq_0_0_0 (by decide)).elim) (fun h_15 => ?_)
      exact k_vret X hr dX11_seenLine_k1.2.2.1.2 (Nat.le_of_ble_eq_true rfl) (Nat.le_of_ble_eq_true rfl) [3, 0, 1, 2] (vnd_e rfl) rfl rfl ⟨m_at, m_end, m_failed2_9, m_fault2_10, d_fresh, d_letters, m_nameSize, m_place2_11, m_token, m_whole, (iv_w hv_m_end (zle_e rfl) (zle_e rfl)), (iv_w iv_13 (zle_e rfl) (zle_e rfl)), (iv_w hv_m_nameSize (zle_e rfl) (zle_e rfl)), hp_d_fresh, (by omega), hr_0, ⟨z_1, ez_1, (Or.inl ⟨h_4, ⟨z_6, ez_6, (Or.inl ⟨h_7, ⟨m_failed2_9, m_fault2_10, m_place2_11, hq_14, ⟨rfl, rfl, rfl, rfl, rfl, rfl, rfl, rfl, rfl, rfl⟩⟩⟩)⟩⟩)⟩, hc_0, rfl⟩
    · skip
      refine k_aload_n X dX11_seenLine_k1.1.1.1.1 0 rfl ?_
      refine k_get (ci := 11) X inlX11 rfl 16 (nlt_e rfl) dX11_seenLine_k1.1.1.1.2 mw171 0 rfl rfl ?_
      refine k_bipush (v := 12) X dX11_seenLine_k1.1.1.2.1 bi_12 ?_
      refine k_iald X dX11_seenLine_k1.1.1.2.2 3 rfl (by unfold vp_in; decide) ?_
      refine k_nm (fun z_16 ez_16 => ?_)
      have i_17 : z_16.toInt = (d_fresh 12).toInt := by rw [ez_16]; rfl
      have iv_18 : IV z_16 0 8 := rb_12 ez_16 hp_d_fresh
      refine k_if_ne 51 X dX11_seenLine_k1.1.2.1.1 (jp_e rfl) (fun h_19 => ?_) (fun h_19 => ?_)
      · skip
        have iv_20 : IV z_16 1 8 := iv_neL h_19 iv_18 iq_0_0_0 (zle_e rfl)
        refine k_aload_n X dX11_seenLine_k1.2.1.2.1 0 rfl ?_
        refine k_get (ci := 11) X inlX11 rfl 13 (nlt_e rfl) dX11_seenLine_k1.2.1.2.2 mw469 0 rfl rfl ?_
        refine k_if_eq 59 X dX11_seenLine_k1.2.2.1.1 (jp_e rfl) (fun h_21 => ?_) (fun h_21 => ?_)
        · skip
          have iv_22 : IV m_failed 0 0 := iv_meet hv_m_failed (iv_e h_21 iq_0_0_0) (zle_o rfl) (zle_o rfl)
          refine k_aload_n X dX11_seenLine_k1.2.2.2.1 0 rfl ?_
          refine k_callVV (n := 0) (As := []) (st := []) X [(cO11_i1r1i10r1i2r5i2r12i3r4i2 h0 m_thrown a_tape m_taped m_size m_at m_end m_token m_whole m_nameSize m_fault m_place m_trouble a_letters m_failed m_hasHouse a_r a_fresh a_st a_undone a_kept m_undos m_images a_from a_begin a_motor a_change a_startFrame a_changeFrame a_lostAt a_blackAt a_slips a_leftArc a_died a_arcs m_bestSum m_nearest m_nearestTown a_there a_backAt a_sorted a_parts m_seed1 m_darkNow), (cAI g a_tape 900 d_tape), (cAI g a_letters 8 d_letters)] [(cAI g a_fresh 311 d_fresh)] [0, 1, 2] [3] (m_nextX l g h0 m_thrown a_tape m_taped m_size m_at m_end m_token m_whole m_nameSize m_fault m_place m_trouble a_letters m_failed m_hasHouse a_r a_fresh a_st a_undone a_kept m_undos m_images a_from a_begin a_motor a_change a_startFrame a_changeFrame a_lostAt a_blackAt a_slips a_leftArc a_died a_arcs m_bestSum m_nearest m_nearestTown a_there a_backAt a_sorted a_parts m_seed1 m_darkNow d_tape d_letters (iv_w hv_m_size (zle_e rfl) (zle_e rfl)) (iv_w hv_m_end (zle_e rfl) (zle_e rfl)) (iv_w hv_m_nameSize (zle_e rfl) (zle_e rfl))) dX11_seenLine_k1.2.2.2.2 mw489 mw490 mw491 mw5 mw492 rfl 11 rfl rfl 0 _ rfl yk_yX11_next_0 rfl (Nat.le_of_ble_eq_true rfl) (Nat.le_of_ble_eq_true rfl) (Nat.le_of_ble_eq_true rfl) (Nat.le_of_ble_eq_true rfl) (Nat.le_of_ble_eq_true rfl) rfl rfl (vnd_e rfl) rfl (vnd_e rfl) (dsj_e rfl) ?_
          intro w zq
          refine exE6 zq ?_
          clear zq
          intro m_at2_23 m_end2_24 d_letters2_25 m_nameSize2_26 m_token2_27 m_whole2_28 iv_30 zq
          refine exA5 zq ?_
          clear zq
          intro iv_31 hq_32 hq_33 hq_34 hk_35 zq
          subst zq
          refine k_ws [(cAI g a_fresh 311 d_fresh), (cO11_i1r1i10r1i2r5i2r12i3r4i2 h0 m_thrown a_tape m_taped m_size m_at2_23 m_end2_24 m_token2_27 m_whole2_28 m_nameSize2_26 m_fault m_place m_trouble a_letters m_failed m_hasHouse a_r a_fresh a_st a_undone a_kept m_undos m_images a_from a_begin a_motor a_change a_startFrame a_changeFrame a_lostAt a_blackAt a_slips a_leftArc a_died a_arcs m_bestSum m_nearest m_nearestTown a_there a_backAt a_sorted a_parts m_seed1 m_darkNow), (cAI g a_tape 900 d_tape), (cAI g a_letters 8 d_letters2_25)] rfl ?_
          refine k_sipush (v := 137) X dX11_seenLine_k2.1.1.1.1 si_137 ?_
          refine k_iconst (v := 3) X dX11_seenLine_k2.1.1.1.2 ic_3 ?_
          refine k_aload_n X dX11_seenLine_k2.1.1.2.1 0 rfl ?_
          refine k_get (ci := 11) X inlX11 rfl 16 (nlt_e rfl) dX11_seenLine_k2.1.1.2.2 mw171 1 rfl rfl ?_
          refine k_bipush (v := 13) X dX11_seenLine_k2.1.2.1.1 bi_13 ?_
          refine k_iald X dX11_seenLine_k2.1.2.1.2 0 rfl (by unfold vp_in; decide) ?_
          refine k_to z_1 ez_1.symm ?_
          refine k_imul X dX11_seenLine_k2.1.2.2.1 ?_
          refine k_nm (fun z_36 ez_36 => ?_)
          have i_37 : z_36.toInt = 3 * z_1.toInt := in_mul ez_36 (by decide) (zle_e rfl) iv_5 (zle_e rfl) (zle_e rfl)
          have iv_38 : IV z_36 0 15 := iz4 i_37 iv_5 (zle_e rfl) (zle_e rfl) (zle_e rfl)
          refine k_iadd X dX11_seenLine_k2.1.2.2.2 ?_
          refine k_nm (fun z_39 ez_39 => ?_)
          have i_40 : z_39.toInt = 137 + z_36.toInt := in_add ez_39 iq_137_137_137 iv_38 (zle_e rfl) (zle_e rfl)
          have iv_41 : IV z_39 137 152 := iz2 i_40 iv_38 (zle_e rfl) (zle_e rfl)
          refine k_istore_n [(1, .int z_39), (0, .ref h0)] X dX11_seenLine_k2.2.1.1.1 (nlt_e rfl) rfl ?_
          refine k_aload_n X dX11_seenLine_k2.2.1.1.2 1 rfl ?_
          refine k_get (ci := 11) X inlX11 rfl 16 (nlt_e rfl) dX11_seenLine_k2.2.1.2.1 mw171 1 rfl rfl ?_
          refine k_iload_n X dX11_seenLine_k2.2.1.2.2 0 rfl ?_
          refine k_aload_n X dX11_seenLine_k2.2.2.1.1 1 rfl ?_
          refine k_iconst (v := 1) X dX11_seenLine_k2.2.2.1.2 ic_1 ?_
          refine k_aload_n X dX11_seenLine_k2.2.2.2.1 1 rfl ?_
          refine k_get (ci := 11) X inlX11 rfl 16 (nlt_e rfl) dX11_seenLine_k2.2.2.2.2 mw171 1 rfl rfl ?_
          refine k_bipush (v := 12) X dX11_seenLine_k3.1.1.1.1 bi_12 ?_
          refine k_iald X dX11_seenLine_k3.1.1.1.2 0 rfl (by unfold vp_in; decide) ?_
          refine k_to z_16 ez_16.symm ?_
          refine k_iconst (v := 1) X dX11_seenLine_k3.1.1.2.1 ic_1 ?_
          refine k_isub X dX11_seenLine_k3.1.1.2.2 ?_
          refine k_nm (fun z_42 ez_42 => ?_)
          have i_43 : z_42.toInt = z_16.toInt - 1 := in_sub ez_42 iv_20 iq_1_1_1 (zle_e rfl) (zle_e rfl)
          have iv_44 : IV z_42 0 7 := iz5 i_43 iv_20 (zle_e rfl) (zle_e rfl)
          refine k_callVI (n := 2) (As := [.int 1, .int z_42]) (st := [.int z_39, .ref a_fresh]) X [(cO11_i1r1i10r1i2r5i2r12i3r4i2 h0 m_thrown a_tape m_taped m_size m_at2_23 m_end2_24 m_token2_27 m_whole2_28 m_nameSize2_26 m_fault m_place m_trouble a_letters m_failed m_hasHouse a_r a_fresh a_st a_undone a_kept m_undos m_images a_from a_begin a_motor a_change a_startFrame a_changeFrame a_lostAt a_blackAt a_slips a_leftArc a_died a_arcs m_bestSum m_nearest m_nearestTown a_there a_backAt a_sorted a_parts m_seed1 m_darkNow), (cAI g a_tape 900 d_tape), (cAI g a_letters 8 d_letters2_25)] [(cAI g a_fresh 311 d_fresh)] [1, 2, 3] [0] (m_numberX l g h0 1 z_42 m_thrown a_tape m_taped m_size m_at2_23 m_end2_24 m_token2_27 m_whole2_28 m_nameSize2_26 m_fault m_place m_trouble a_letters m_failed m_hasHouse a_r a_fresh a_st a_undone a_kept m_undos m_images a_from a_begin a_motor a_change a_startFrame a_changeFrame a_lostAt a_blackAt a_slips a_leftArc a_died a_arcs m_bestSum m_nearest m_nearestTown a_there a_backAt a_sorted a_parts m_seed1 m_darkNow d_tape d_letters2_25 (iv_w hv_m_size (zle_e rfl) (zle_e rfl)) (iv_w iv_30 (zle_e rfl) (zle_e rfl)) (iv_w iv_31 (zle_e rfl) (zle_e rfl)) (iv_w iv_22 (zle_e rfl) (zle_e rfl)) hk_35) dX11_seenLine_k3.1.2.1.1 mw535 mw536 mw537 mw5 mw538 rfl 11 rfl rfl 0 _ rfl yk_yX11_number_2 rfl (Nat.le_of_ble_eq_true rfl) (Nat.le_of_ble_eq_true rfl) (Nat.le_of_ble_eq_true rfl) (Nat.le_of_ble_eq_true rfl) (Nat.le_of_ble_eq_true rfl) rfl rfl (vnd_e rfl) rfl (vnd_e rfl) (dsj_e rfl) ?_
          intro r_54 w zq
          refine exE9 zq ?_
          clear zq
          intro m_at2_45 m_end2_46 m_failed2_47 m_fault2_48 d_letters2_49 m_nameSize2_50 m_place2_51 m_token2_52 m_whole2_53 iv_55 zq
          refine exA6 zq ?_
          clear zq
          intro iv_56 iv_57 hq_58 hq_59 hq_60 hk_61 zq
          subst zq
          refine k_ws [(cAI g a_fresh 311 d_fresh), (cO11_i1r1i10r1i2r5i2r12i3r4i2 h0 m_thrown a_tape m_taped m_size m_at2_45 m_end2_46 m_token2_52 m_whole2_53 m_nameSize2_50 m_fault2_48 m_place2_51 m_trouble a_letters m_failed2_47 m_hasHouse a_r a_fresh a_st a_undone a_kept m_undos m_images a_from a_begin a_motor a_change a_startFrame a_changeFrame a_lostAt a_blackAt a_slips a_leftArc a_died a_arcs m_bestSum m_nearest m_nearestTown a_there a_backAt a_sorted a_parts m_seed1 m_darkNow), (cAI g a_tape 900 d_tape), (cAI g a_letters 8 d_letters2_49)] rfl ?_
          have e_62 : (1 : Int32).toInt = 1 := by decide
          have iv_63 : IV r_54 1 7 := by have := iq_1_1_1; have := iv_44; rw [IV]; omega
          refine k_iast [(cAI g a_fresh 311 (upd d_fresh (z_39 : Int32).toNatClampNeg r_54)), (cO11_i1r1i10r1i2r5i2r12i3r4i2 h0 m_thrown a_tape m_taped m_size m_at2_45 m_end2_46 m_token2_52 m_whole2_53 m_nameSize2_50 m_fault2_48 m_place2_51 m_trouble a_letters m_failed2_47 m_hasHouse a_r a_fresh a_st a_undone a_kept m_undos m_images a_from a_begin a_motor a_change a_startFrame a_changeFrame a_lostAt a_blackAt a_slips a_leftArc a_died a_arcs m_bestSum m_nearest m_nearestTown a_there a_backAt a_sorted a_parts m_seed1 m_darkNow), (cAI g a_tape 900 d_tape), (cAI g a_letters 8 d_letters2_49)] X dX11_seenLine_k3.1.2.1.2 0 rfl (iv_in iv_41 (zle_e rfl) (zle_l rfl)) rfl ?_
          have i_66 : z_39.toInt = 137 + 3 * z_1.toInt := by omega
          refine (fun hg : ∀ fa_64 : Nat → Int32, fa_64 = upd d_fresh (z_39 : Int32).toNatClampNeg r_54 → RInv fa_64 → K16 d_fresh fa_64 → Wk p l e _ s m args below meth c _ A g _ _ _ [(cAI g a_fresh 311 fa_64), (cO11_i1r1i10r1i2r5i2r12i3r4i2 h0 m_thrown a_tape m_taped m_size m_at2_45 m_end2_46 m_token2_52 m_whole2_53 m_nameSize2_50 m_fault2_48 m_place2_51 m_trouble a_letters m_failed2_47 m_hasHouse a_r a_fresh a_st a_undone a_kept m_undos m_images a_from a_begin a_motor a_change a_startFrame a_changeFrame a_lostAt a_blackAt a_slips a_leftArc a_died a_arcs m_bestSum m_nearest m_nearestTown a_there a_backAt a_sorted a_parts m_seed1 m_darkNow), (cAI g a_tape 900 d_tape), (cAI g a_letters 8 d_letters2_49)] _ _ _ => hg _ rfl (w_rb_137_3 hp_d_fresh i_66 (iv_w iv_5 (zle_e rfl) (zle_e rfl)) (iv_w iv_63 (zle_e rfl) (zle_e rfl))) (k16_u (z := z_39) (by have := iv_41; omega))) (fun fa_64 eq_68 hR_65 hk_67 => ?_)
          have ek_69 : z_1 = fa_64 (13 : Int32).toNatClampNeg := ez_1.trans (hk_67 _ (by decide)).symm
          have ek_70 : z_6 = fa_64 (15 : Int32).toNatClampNeg := ez_6.trans (hk_67 _ (by decide)).symm
          have ek_71 : z_16 = fa_64 (12 : Int32).toNatClampNeg := ez_16.trans (hk_67 _ (by decide)).symm
          have hT_72 : TRI fa_64 := by have := iv_41; exact tri_z (z := z_39) eq_68 hr_0 hp_d_fresh (by omega) (by omega) (by omega) (by omega) (by omega)
          refine k_aload_n X dX11_seenLine_k3.1.2.2.1 1 rfl ?_
          refine k_get (ci := 11) X inlX11 rfl 16 (nlt_e rfl) dX11_seenLine_k3.1.2.2.2 mw171 1 rfl rfl ?_
          refine k_iload_n X dX11_seenLine_k3.2.1.1.1 0 rfl ?_
          refine k_iconst (v := 1) X dX11_seenLine_k3.2.1.1.2 ic_1 ?_
          refine k_iadd X dX11_seenLine_k3.2.1.2.1 ?_
          refine k_nm (fun z_73 ez_73 => ?_)
          have i_74 : z_73.toInt = z_39.toInt + 1 := in_add ez_73 iv_41 iq_1_1_1 (zle_e rfl) (zle_e rfl)
          have iv_75 : IV z_73 138 153 := iz1 i_74 iv_41 (zle_e rfl) (zle_e rfl)
          refine k_aload_n X dX11_seenLine_k3.2.1.2.2 1 rfl ?_
          refine k_ldcwS (tx := "black") X dX11_seenLine_k3.2.2.1.1 (by decide +kernel) (fun sr_76 hsr_76 => ?_)
          refine k_iconst (v := 0) X dX11_seenLine_k3.2.2.1.2 ic_0 ?_
          refine k_sipush (v := 9999) X dX11_seenLine_k3.2.2.2.1 si_9999 ?_
          refine k_callVI (n := 3) (As := [.ref sr_76, .int 0, .int 9999]) (st := [.int z_73, .ref a_fresh]) X [(cO11_i1r1i10r1i2r5i2r12i3r4i2 h0 m_thrown a_tape m_taped m_size m_at2_45 m_end2_46 m_token2_52 m_whole2_53 m_nameSize2_50 m_fault2_48 m_place2_51 m_trouble a_letters m_failed2_47 m_hasHouse a_r a_fresh a_st a_undone a_kept m_undos m_images a_from a_begin a_motor a_change a_startFrame a_changeFrame a_lostAt a_blackAt a_slips a_leftArc a_died a_arcs m_bestSum m_nearest m_nearestTown a_there a_backAt a_sorted a_parts m_seed1 m_darkNow), (cAI g a_tape 900 d_tape), (cAI g a_letters 8 d_letters2_49)] [(cAI g a_fresh 311 fa_64)] [1, 2, 3] [0] (m_afterX l g h0 sr_76 0 9999 m_thrown a_tape m_taped m_size m_at2_45 m_end2_46 m_token2_52 m_whole2_53 m_nameSize2_50 m_fault2_48 m_place2_51 m_trouble a_letters m_failed2_47 m_hasHouse a_r a_fresh a_st a_undone a_kept m_undos m_images a_from a_begin a_motor a_change a_startFrame a_changeFrame a_lostAt a_blackAt a_slips a_leftArc a_died a_arcs m_bestSum m_nearest m_nearestTown a_there a_backAt a_sorted a_parts m_seed1 m_darkNow d_tape d_letters2_49 ("black") (iv_w hv_m_size (zle_e rfl) (zle_e rfl)) (iv_w iv_55 (zle_e rfl) (zle_e rfl)) (iv_w iv_57 (zle_e rfl) (zle_e rfl)) (iv_w iv_56 (zle_e rfl) (zle_e rfl)) hsr_76 hk_61) dX11_seenLine_k3.2.2.2.2 mw523 mw524 mw525 mw5 mw526 rfl 11 rfl rfl 0 _ rfl yk_yX11_after_3 rfl (Nat.le_of_ble_eq_true rfl) (Nat.le_of_ble_eq_true rfl) (Nat.le_of_ble_eq_true rfl) (Nat.le_of_ble_eq_true rfl) (Nat.le_of_ble_eq_true rfl) rfl rfl (vnd_e rfl) rfl (vnd_e rfl) (dsj_e rfl) ?_
          intro r_86 w zq
          refine exE9 zq ?_
          clear zq
          intro m_at2_77 m_end2_78 m_failed2_79 m_fault2_80 d_letters2_81 m_nameSize2_82 m_place2_83 m_token2_84 m_whole2_85 iv_87 zq
          refine exA6 zq ?_
          clear zq
          intro iv_88 iv_89 hq_90 hq_91 hq_92 hk_93 zq
          subst zq
          refine k_ws [(cAI g a_fresh 311 fa_64), (cO11_i1r1i10r1i2r5i2r12i3r4i2 h0 m_thrown a_tape m_taped m_size m_at2_77 m_end2_78 m_token2_84 m_whole2_85 m_nameSize2_82 m_fault2_80 m_place2_83 m_trouble a_letters m_failed2_79 m_hasHouse a_r a_fresh a_st a_undone a_kept m_undos m_images a_from a_begin a_motor a_change a_startFrame a_changeFrame a_lostAt a_blackAt a_slips a_leftArc a_died a_arcs m_bestSum m_nearest m_nearestTown a_there a_backAt a_sorted a_parts m_seed1 m_darkNow), (cAI g a_tape 900 d_tape), (cAI g a_letters 8 d_letters2_81)] rfl ?_
          have e_94 : (0 : Int32).toInt = 0 := by decide
          have e_95 : (9999 : Int32).toInt = 9999 := by decide
          have iv_96 : IV r_86 0 9999 := by have := iq_0_0_0; have := iq_9999_9999_9999; rw [IV]; omega
          refine k_iast [(cAI g a_fresh 311 (upd fa_64 (z_73 : Int32).toNatClampNeg r_86)), (cO11_i1r1i10r1i2r5i2r12i3r4i2 h0 m_thrown a_tape m_taped m_size m_at2_77 m_end2_78 m_token2_84 m_whole2_85 m_nameSize2_82 m_fault2_80 m_place2_83 m_trouble a_letters m_failed2_79 m_hasHouse a_r a_fresh a_st a_undone a_kept m_undos m_images a_from a_begin a_motor a_change a_startFrame a_changeFrame a_lostAt a_blackAt a_slips a_leftArc a_died a_arcs m_bestSum m_nearest m_nearestTown a_there a_backAt a_sorted a_parts m_seed1 m_darkNow), (cAI g a_tape 900 d_tape), (cAI g a_letters 8 d_letters2_81)] X dX11_seenLine_k4.1.1.1.1 0 rfl (iv_in iv_75 (zle_e rfl) (zle_l rfl)) rfl ?_
          have i_99 : z_73.toInt = 138 + 3 * z_1.toInt := by omega
          refine (fun hg : ∀ fa_97 : Nat → Int32, fa_97 = upd fa_64 (z_73 : Int32).toNatClampNeg r_86 → RInv fa_97 → K16 fa_64 fa_97 → Wk p l e _ s m args below meth c _ A g _ _ _ [(cAI g a_fresh 311 fa_97), (cO11_i1r1i10r1i2r5i2r12i3r4i2 h0 m_thrown a_tape m_taped m_size m_at2_77 m_end2_78 m_token2_84 m_whole2_85 m_nameSize2_82 m_fault2_80 m_place2_83 m_trouble a_letters m_failed2_79 m_hasHouse a_r a_fresh a_st a_undone a_kept m_undos m_images a_from a_begin a_motor a_change a_startFrame a_changeFrame a_lostAt a_blackAt a_slips a_leftArc a_died a_arcs m_bestSum m_nearest m_nearestTown a_there a_backAt a_sorted a_parts m_seed1 m_darkNow), (cAI g a_tape 900 d_tape), (cAI g a_letters 8 d_letters2_81)] _ _ _ => hg _ rfl (w_fr_138_3 hR_65 i_99 (iv_w iv_5 (zle_e rfl) (zle_e rfl))) (k16_u (z := z_73) (by have := iv_75; omega))) (fun fa_97 eq_101 hR_98 hk_100 => ?_)
          have ek_102 : z_1 = fa_97 (13 : Int32).toNatClampNeg := ek_69.trans (hk_100 _ (by decide)).symm
          have ek_103 : z_6 = fa_97 (15 : Int32).toNatClampNeg := ek_70.trans (hk_100 _ (by decide)).symm
          have ek_104 : z_16 = fa_97 (12 : Int32).toNatClampNeg := ek_71.trans (hk_100 _ (by decide)).symm
          have hT_105 : TRI fa_97 := by have := iv_75; exact tri_z (z := z_73) eq_101 hT_72 hR_65 (by omega) (by omega) (by omega) (by omega) (by omega)
          refine k_aload_n X dX11_seenLine_k4.1.1.1.2 1 rfl ?_
          refine k_get (ci := 11) X inlX11 rfl 16 (nlt_e rfl) dX11_seenLine_k4.1.1.2.1 mw171 1 rfl rfl ?_
          refine k_iload_n X dX11_seenLine_k4.1.1.2.2 0 rfl ?_
          refine k_iconst (v := 2) X dX11_seenLine_k4.1.2.1.1 ic_2 ?_
          refine k_iadd X dX11_seenLine_k4.1.2.1.2 ?_
          refine k_nm (fun z_106 ez_106 => ?_)
          have i_107 : z_106.toInt = z_39.toInt + 2 := in_add ez_106 iv_41 iq_2_2_2 (zle_e rfl) (zle_e rfl)
          have iv_108 : IV z_106 139 154 := iz1 i_107 iv_41 (zle_e rfl) (zle_e rfl)
          refine k_aload_n X dX11_seenLine_k4.1.2.2.1 1 rfl ?_
          refine k_ldcwS (tx := "lost") X dX11_seenLine_k4.1.2.2.2 (by decide +kernel) (fun sr_109 hsr_109 => ?_)
          refine k_iconst (v := 0) X dX11_seenLine_k4.2.1.1.1 ic_0 ?_
          refine k_sipush (v := 9999) X dX11_seenLine_k4.2.1.1.2 si_9999 ?_
          refine k_callVI (n := 3) (As := [.ref sr_109, .int 0, .int 9999]) (st := [.int z_106, .ref a_fresh]) X [(cO11_i1r1i10r1i2r5i2r12i3r4i2 h0 m_thrown a_tape m_taped m_size m_at2_77 m_end2_78 m_token2_84 m_whole2_85 m_nameSize2_82 m_fault2_80 m_place2_83 m_trouble a_letters m_failed2_79 m_hasHouse a_r a_fresh a_st a_undone a_kept m_undos m_images a_from a_begin a_motor a_change a_startFrame a_changeFrame a_lostAt a_blackAt a_slips a_leftArc a_died a_arcs m_bestSum m_nearest m_nearestTown a_there a_backAt a_sorted a_parts m_seed1 m_darkNow), (cAI g a_tape 900 d_tape), (cAI g a_letters 8 d_letters2_81)] [(cAI g a_fresh 311 fa_97)] [1, 2, 3] [0] (m_afterX l g h0 sr_109 0 9999 m_thrown a_tape m_taped m_size m_at2_77 m_end2_78 m_token2_84 m_whole2_85 m_nameSize2_82 m_fault2_80 m_place2_83 m_trouble a_letters m_failed2_79 m_hasHouse a_r a_fresh a_st a_undone a_kept m_undos m_images a_from a_begin a_motor a_change a_startFrame a_changeFrame a_lostAt a_blackAt a_slips a_leftArc a_died a_arcs m_bestSum m_nearest m_nearestTown a_there a_backAt a_sorted a_parts m_seed1 m_darkNow d_tape d_letters2_81 ("lost") (iv_w hv_m_size (zle_e rfl) (zle_e rfl)) (iv_w iv_87 (zle_e rfl) (zle_e rfl)) (iv_w iv_89 (zle_e rfl) (zle_e rfl)) (iv_w iv_88 (zle_e rfl) (zle_e rfl)) hsr_109 hk_93) dX11_seenLine_k4.2.1.2.1 mw523 mw524 mw525 mw5 mw526 rfl 11 rfl rfl 0 _ rfl yk_yX11_after_3 rfl (Nat.le_of_ble_eq_true rfl) (Nat.le_of_ble_eq_true rfl) (Nat.le_of_ble_eq_true rfl) (Nat.le_of_ble_eq_true rfl) (Nat.le_of_ble_eq_true rfl) rfl rfl (vnd_e rfl) rfl (vnd_e rfl) (dsj_e rfl) ?_
          intro r_119 w zq
          refine exE9 zq ?_
          clear zq
          intro m_at2_110 m_end2_111 m_failed2_112 m_fault2_113 d_letters2_114 m_nameSize2_115 m_place2_116 m_token2_117 m_whole2_118 iv_120 zq
          refine exA6 zq ?_
          clear zq
          intro iv_121 iv_122 hq_123 hq_124 hq_125 hk_126 zq
          subst zq
          refine k_ws [(cAI g a_fresh 311 fa_97), (cO11_i1r1i10r1i2r5i2r12i3r4i2 h0 m_thrown a_tape m_taped m_size m_at2_110 m_end2_111 m_token2_117 m_whole2_118 m_nameSize2_115 m_fault2_113 m_place2_116 m_trouble a_letters m_failed2_112 m_hasHouse a_r a_fresh a_st a_undone a_kept m_undos m_images a_from a_begin a_motor a_change a_startFrame a_changeFrame a_lostAt a_blackAt a_slips a_leftArc a_died a_arcs m_bestSum m_nearest m_nearestTown a_there a_backAt a_sorted a_parts m_seed1 m_darkNow), (cAI g a_tape 900 d_tape), (cAI g a_letters 8 d_letters2_114)] rfl ?_
          have e_127 : (0 : Int32).toInt = 0 := by decide
          have e_128 : (9999 : Int32).toInt = 9999 := by decide
          have iv_129 : IV r_119 0 9999 := by have := iq_0_0_0; have := iq_9999_9999_9999; rw [IV]; omega
          refine k_iast [(cAI g a_fresh 311 (upd fa_97 (z_106 : Int32).toNatClampNeg r_119)), (cO11_i1r1i10r1i2r5i2r12i3r4i2 h0 m_thrown a_tape m_taped m_size m_at2_110 m_end2_111 m_token2_117 m_whole2_118 m_nameSize2_115 m_fault2_113 m_place2_116 m_trouble a_letters m_failed2_112 m_hasHouse a_r a_fresh a_st a_undone a_kept m_undos m_images a_from a_begin a_motor a_change a_startFrame a_changeFrame a_lostAt a_blackAt a_slips a_leftArc a_died a_arcs m_bestSum m_nearest m_nearestTown a_there a_backAt a_sorted a_parts m_seed1 m_darkNow), (cAI g a_tape 900 d_tape), (cAI g a_letters 8 d_letters2_114)] X dX11_seenLine_k4.2.1.2.2 0 rfl (iv_in iv_108 (zle_e rfl) (zle_l rfl)) rfl ?_
          have i_132 : z_106.toInt = 139 + 3 * z_1.toInt := by omega
          refine (fun hg : ∀ fa_130 : Nat → Int32, fa_130 = upd fa_97 (z_106 : Int32).toNatClampNeg r_119 → RInv fa_130 → K16 fa_97 fa_130 → Wk p l e _ s m args below meth c _ A g _ _ _ [(cAI g a_fresh 311 fa_130), (cO11_i1r1i10r1i2r5i2r12i3r4i2 h0 m_thrown a_tape m_taped m_size m_at2_110 m_end2_111 m_token2_117 m_whole2_118 m_nameSize2_115 m_fault2_113 m_place2_116 m_trouble a_letters m_failed2_112 m_hasHouse a_r a_fresh a_st a_undone a_kept m_undos m_images a_from a_begin a_motor a_change a_startFrame a_changeFrame a_lostAt a_blackAt a_slips a_leftArc a_died a_arcs m_bestSum m_nearest m_nearestTown a_there a_backAt a_sorted a_parts m_seed1 m_darkNow), (cAI g a_tape 900 d_tape), (cAI g a_letters 8 d_letters2_114)] _ _ _ => hg _ rfl (w_fr_139_3 hR_98 i_132 (iv_w iv_5 (zle_e rfl) (zle_e rfl))) (k16_u (z := z_106) (by have := iv_108; omega))) (fun fa_130 eq_134 hR_131 hk_133 => ?_)
          have ek_135 : z_1 = fa_130 (13 : Int32).toNatClampNeg := ek_102.trans (hk_133 _ (by decide)).symm
          have ek_136 : z_6 = fa_130 (15 : Int32).toNatClampNeg := ek_103.trans (hk_133 _ (by decide)).symm
          have ek_137 : z_16 = fa_130 (12 : Int32).toNatClampNeg := ek_104.trans (hk_133 _ (by decide)).symm
          have hT_138 : TRI fa_130 := by have := iv_108; exact tri_z (z := z_106) eq_134 hT_105 hR_98 (by omega) (by omega) (by omega) (by omega) (by omega)
          refine k_aload_n X dX11_seenLine_k4.2.2.1.1 1 rfl ?_
          refine k_get (ci := 11) X inlX11 rfl 13 (nlt_e rfl) dX11_seenLine_k4.2.2.1.2 mw469 1 rfl rfl ?_
          refine k_if_ne 153 X dX11_seenLine_k4.2.2.2.1 (jp_e rfl) (fun h_139 => ?_) (fun h_139 => ?_)
          · skip
            have iv_140 : IV m_failed2_112 1 1 := iv_neL h_139 iv_121 iq_0_0_0 (zle_e rfl)
            exact k_vret X hr dX11_seenLine_k5.2.2.2 (Nat.le_of_ble_eq_true rfl) (Nat.le_of_ble_eq_true rfl) [1, 2, 3, 0] (vnd_e rfl) rfl rfl ⟨m_at2_110, m_end2_111, m_failed2_112, m_fault2_113, fa_130, d_letters2_114, m_nameSize2_115, m_place2_116, m_token2_117, m_whole2_118, (iv_w iv_120 (zle_e rfl) (zle_e rfl)), (iv_w iv_140 (zle_e rfl) (zle_e rfl)), (iv_w iv_122 (zle_e rfl) (zle_e rfl)), hR_131, (by omega), hT_138, ⟨z_1, ez_1, (Or.inl ⟨h_4, ⟨z_6, ez_6, (Or.inr ⟨h_7, ⟨z_16, ez_16, (Or.inl ⟨h_19, (Or.inl ⟨h_21, ⟨m_at2_23, m_end2_24, d_letters2_25, m_nameSize2_26, m_token2_27, m_whole2_28, hq_34, ⟨z_36, ez_36, ⟨z_39, ez_39, ⟨z_42, ez_42, ⟨m_at2_45, m_end2_46, m_failed2_47, m_fault2_48, d_letters2_49, m_nameSize2_50, m_place2_51, m_token2_52, m_whole2_53, r_54, hq_60, ⟨fa_64, eq_68, ⟨z_73, ez_73, ⟨m_at2_77, m_end2_78, m_failed2_79, m_fault2_80, d_letters2_81, m_nameSize2_82, m_place2_83, m_token2_84, m_whole2_85, r_86, hq_92, ⟨fa_97, eq_101, ⟨z_106, ez_106, ⟨m_at2_110, m_end2_111, m_failed2_112, m_fault2_113, d_letters2_114, m_nameSize2_115, m_place2_116, m_token2_117, m_whole2_118, r_119, hq_125, ⟨fa_130, eq_134, (Or.inl ⟨h_139, ⟨rfl, rfl, rfl, rfl, rfl, rfl, rfl, rfl, rfl, rfl⟩⟩)⟩⟩⟩⟩⟩⟩⟩⟩⟩⟩⟩⟩⟩)⟩)⟩⟩)⟩⟩)⟩, hk_126, rfl⟩
          · skip
            have iv_141 : IV m_failed2_112 0 0 := iv_meet iv_121 (iv_e h_139 iq_0_0_0) (zle_o rfl) (zle_o rfl)
            refine k_aload_n X dX11_seenLine_k4.2.2.2.2 1 rfl ?_
            refine k_get (ci := 11) X inlX11 rfl 16 (nlt_e rfl) dX11_seenLine_k5.1.1.1 mw171 1 rfl rfl ?_
            refine k_bipush (v := 13) X dX11_seenLine_k5.1.1.2 bi_13 ?_
            refine k_dup2 X dX11_seenLine_k5.1.2.1 rfl rfl ?_
            refine k_iald X dX11_seenLine_k5.1.2.2 0 rfl (by unfold vp_in; decide) ?_
            refine k_to z_1 ek_135.symm ?_
            refine k_iconst (v := 1) X dX11_seenLine_k5.2.1.1 ic_1 ?_
            refine k_iadd X dX11_seenLine_k5.2.1.2 ?_
            refine k_nm (fun z_142 ez_142 => ?_)
            have i_143 : z_142.toInt = z_1.toInt + 1 := in_add ez_142 iv_5 iq_1_1_1 (zle_e rfl) (zle_e rfl)
            have iv_144 : IV z_142 1 6 := iz1 i_143 iv_5 (zle_e rfl) (zle_e rfl)
            refine k_iast [(cAI g a_fresh 311 (upd fa_130 (13 : Int32).toNatClampNeg z_142)), (cO11_i1r1i10r1i2r5i2r12i3r4i2 h0 m_thrown a_tape m_taped m_size m_at2_110 m_end2_111 m_token2_117 m_whole2_118 m_nameSize2_115 m_fault2_113 m_place2_116 m_trouble a_letters m_failed2_112 m_hasHouse a_r a_fresh a_st a_undone a_kept m_undos m_images a_from a_begin a_motor a_change a_startFrame a_changeFrame a_lostAt a_blackAt a_slips a_leftArc a_died a_arcs m_bestSum m_nearest m_nearestTown a_there a_backAt a_sorted a_parts m_seed1 m_darkNow), (cAI g a_tape 900 d_tape), (cAI g a_letters 8 d_letters2_114)] X dX11_seenLine_k5.2.2.1 0 rfl (by unfold vp_in; decide) rfl ?_
            refine (fun hg : ∀ fa_145 : Nat → Int32, fa_145 = upd fa_130 (13 : Int32).toNatClampNeg z_142 → RInv fa_145 → Wk p l e _ s m args below meth c _ A g _ _ _ [(cAI g a_fresh 311 fa_145), (cO11_i1r1i10r1i2r5i2r12i3r4i2 h0 m_thrown a_tape m_taped m_size m_at2_110 m_end2_111 m_token2_117 m_whole2_118 m_nameSize2_115 m_fault2_113 m_place2_116 m_trouble a_letters m_failed2_112 m_hasHouse a_r a_fresh a_st a_undone a_kept m_undos m_images a_from a_begin a_motor a_change a_startFrame a_changeFrame a_lostAt a_blackAt a_slips a_leftArc a_died a_arcs m_bestSum m_nearest m_nearestTown a_there a_backAt a_sorted a_parts m_seed1 m_darkNow), (cAI g a_tape 900 d_tape), (cAI g a_letters 8 d_letters2_114)] _ _ _ => hg _ rfl (w_rb_13 hR_131 (iv_w iv_144 (zle_e rfl) (zle_e rfl)))) (fun fa_145 eq_148 hR_146 => ?_)
            have hT_149 : TRI fa_145 := by rw [eq_148]; exact tri_n (z := 13) hT_138 hR_131 (by decide) (by decide) (by decide) (by decide)
            exact k_vret X hr dX11_seenLine_k5.2.2.2 (Nat.le_of_ble_eq_true rfl) (Nat.le_of_ble_eq_true rfl) [1, 2, 3, 0] (vnd_e rfl) rfl rfl ⟨m_at2_110, m_end2_111, m_failed2_112, m_fault2_113, fa_145, d_letters2_114, m_nameSize2_115, m_place2_116, m_token2_117, m_whole2_118, (iv_w iv_120 (zle_e rfl) (zle_e rfl)), (iv_w iv_141 (zle_e rfl) (zle_e rfl)), (iv_w iv_122 (zle_e rfl) (zle_e rfl)), hR_146, (by omega), hT_149, ⟨z_1, ez_1, (Or.inl ⟨h_4, ⟨z_6, ez_6, (Or.inr ⟨h_7, ⟨z_16, ez_16, (Or.inl ⟨h_19, (Or.inl ⟨h_21, ⟨m_at2_23, m_end2_24, d_letters2_25, m_nameSize2_26, m_token2_27, m_whole2_28, hq_34, ⟨z_36, ez_36, ⟨z_39, ez_39, ⟨z_42, ez_42, ⟨m_at2_45, m_end2_46, m_failed2_47, m_fault2_48, d_letters2_49, m_nameSize2_50, m_place2_51, m_token2_52, m_whole2_53, r_54, hq_60, ⟨fa_64, eq_68, ⟨z_73, ez_73, ⟨m_at2_77, m_end2_78, m_failed2_79, m_fault2_80, d_letters2_81, m_nameSize2_82, m_place2_83, m_token2_84, m_whole2_85, r_86, hq_92, ⟨fa_97, eq_101, ⟨z_106, ez_106, ⟨m_at2_110, m_end2_111, m_failed2_112, m_fault2_113, d_letters2_114, m_nameSize2_115, m_place2_116, m_token2_117, m_whole2_118, r_119, hq_125, ⟨fa_130, eq_134, (Or.inr ⟨h_139, ⟨z_142, ez_142, ⟨fa_145, eq_148, ⟨rfl, rfl, rfl, rfl, rfl, rfl, rfl, rfl, rfl, rfl⟩⟩⟩⟩)⟩⟩⟩⟩⟩⟩⟩⟩⟩⟩⟩⟩⟩)⟩)⟩⟩)⟩⟩)⟩, hk_126, rfl⟩
        · skip
          have iv_150 : IV m_failed 1 1 := iv_neL h_21 hv_m_failed iq_0_0_0 (zle_e rfl)
          exact k_vret X hr dX11_seenLine_k1.2.2.1.2 (Nat.le_of_ble_eq_true rfl) (Nat.le_of_ble_eq_true rfl) [0, 1, 2, 3] (vnd_e rfl) rfl rfl ⟨m_at, m_end, m_failed, m_fault, d_fresh, d_letters, m_nameSize, m_place, m_token, m_whole, (iv_w hv_m_end (zle_e rfl) (zle_e rfl)), (iv_w iv_150 (zle_e rfl) (zle_e rfl)), (iv_w hv_m_nameSize (zle_e rfl) (zle_e rfl)), hp_d_fresh, (by omega), hr_0, ⟨z_1, ez_1, (Or.inl ⟨h_4, ⟨z_6, ez_6, (Or.inr ⟨h_7, ⟨z_16, ez_16, (Or.inl ⟨h_19, (Or.inr ⟨h_21, ⟨rfl, rfl, rfl, rfl, rfl, rfl, rfl, rfl, rfl, rfl⟩⟩)⟩)⟩⟩)⟩⟩)⟩, hc_0, rfl⟩
      · skip
        have iv_151 : IV z_16 0 0 := iv_meet iv_18 (iv_e h_19 iq_0_0_0) (zle_o rfl) (zle_o rfl)
        refine k_aload_n X dX11_seenLine_k1.1.2.1.2 0 rfl ?_
        refine k_bipush (v := 6) X dX11_seenLine_k1.1.2.2.1 bi_6 ?_
        refine k_aload_n X dX11_seenLine_k1.1.2.2.2 0 rfl ?_
        refine k_get (ci := 11) X inlX11 rfl 4 (nlt_e rfl) dX11_seenLine_k1.2.1.1.1 mw473 0 rfl rfl ?_
        refine k_callVV (n := 2) (As := [.int 6, .int m_at]) (st := []) X [(cO11_i1r1i10r1i2r5i2r12i3r4i2 h0 m_thrown a_tape m_taped m_size m_at m_end m_token m_whole m_nameSize m_fault m_place m_trouble a_letters m_failed m_hasHouse a_r a_fresh a_st a_undone a_kept m_undos m_images a_from a_begin a_motor a_change a_startFrame a_changeFrame a_lostAt a_blackAt a_slips a_leftArc a_died a_arcs m_bestSum m_nearest m_nearestTown a_there a_backAt a_sorted a_parts m_seed1 m_darkNow)] [(cAI g a_tape 900 d_tape), (cAI g a_letters 8 d_letters), (cAI g a_fresh 311 d_fresh)] [0] [1, 2, 3] (m_badX l g h0 6 m_at m_thrown a_tape m_taped m_size m_at m_end m_token m_whole m_nameSize m_fault m_place m_trouble a_letters m_failed m_hasHouse a_r a_fresh a_st a_undone a_kept m_undos m_images a_from a_begin a_motor a_change a_startFrame a_changeFrame a_lostAt a_blackAt a_slips a_leftArc a_died a_arcs m_bestSum m_nearest m_nearestTown a_there a_backAt a_sorted a_parts m_seed1 m_darkNow (iv_w hv_m_failed (zle_e rfl) (zle_e rfl))) dX11_seenLine_k1.2.1.1.2 mw519 mw520 mw521 mw5 mw522 rfl 11 rfl rfl 0 _ rfl yk_yX11_bad_2 rfl (Nat.le_of_ble_eq_true rfl) (Nat.le_of_ble_eq_true rfl) (Nat.le_of_ble_eq_true rfl) (Nat.le_of_ble_eq_true rfl) (Nat.le_of_ble_eq_true rfl) rfl rfl (vnd_e rfl) rfl (vnd_e rfl) (dsj_e rfl) ?_
        rintro w ⟨m_failed2_152, m_fault2_153, m_place2_154, iv_156, hq_157, rfl⟩
        refine k_ws [(cAI g a_tape 900 d_tape), (cAI g a_letters 8 d_letters), (cAI g a_fresh 311 d_fresh), (cO11_i1r1i10r1i2r5i2r12i3r4i2 h0 m_thrown a_tape m_taped m_size m_at m_end m_token m_whole m_nameSize m_fault2_153 m_place2_154 m_trouble a_letters m_failed2_152 m_hasHouse a_r a_fresh a_st a_undone a_kept m_undos m_images a_from a_begin a_motor a_change a_startFrame a_changeFrame a_lostAt a_blackAt a_slips a_leftArc a_died a_arcs m_bestSum m_nearest m_nearestTown a_there a_backAt a_sorted a_parts m_seed1 m_darkNow)] rfl ?_
        refine k_aload_n X dX11_seenLine_k1.2.1.2.1 0 rfl ?_
        refine k_get (ci := 11) X inlX11 rfl 13 (nlt_e rfl) dX11_seenLine_k1.2.1.2.2 mw469 3 rfl rfl ?_
        refine k_if_eq 59 X dX11_seenLine_k1.2.2.1.1 (jp_e rfl) (fun h_158 => (iv_eqN h_158 iv_156 iq_0_0_0 (by decide)).elim) (fun h_158 => ?_)
        exact k_vret X hr dX11_seenLine_k1.2.2.1.2 (Nat.le_of_ble_eq_true rfl) (Nat.le_of_ble_eq_true rfl) [3, 0, 1, 2] (vnd_e rfl) rfl rfl ⟨m_at, m_end, m_failed2_152, m_fault2_153, d_fresh, d_letters, m_nameSize, m_place2_154, m_token, m_whole, (iv_w hv_m_end (zle_e rfl) (zle_e rfl)), (iv_w iv_156 (zle_e rfl) (zle_e rfl)), (iv_w hv_m_nameSize (zle_e rfl) (zle_e rfl)), hp_d_fresh, (by omega), hr_0, ⟨z_1, ez_1, (Or.inl ⟨h_4, ⟨z_6, ez_6, (Or.inr ⟨h_7, ⟨z_16, ez_16, (Or.inr ⟨h_19, ⟨m_failed2_152, m_fault2_153, m_place2_154, hq_157, ⟨rfl, rfl, rfl, rfl, rfl, rfl, rfl, rfl, rfl, rfl⟩⟩⟩)⟩⟩)⟩⟩)⟩, hc_0, rfl⟩
  · skip
    have iv_159 : IV z_1 6 6 := iv_meet iv_3 (iv_e h_4 iq_6_6_6) (zle_o rfl) (zle_o rfl)
    refine k_aload_n X dX11_seenLine_k0.1.2.2.1 0 rfl ?_
    refine k_iconst (v := 5) X dX11_seenLine_k0.1.2.2.2 ic_5 ?_
    refine k_aload_n X dX11_seenLine_k0.2.1.1.1 0 rfl ?_
    refine k_get (ci := 11) X inlX11 rfl 4 (nlt_e rfl) dX11_seenLine_k0.2.1.1.2 mw473 0 rfl rfl ?_
    refine k_callVV (n := 2) (As := [.int 5, .int m_at]) (st := []) X [(cO11_i1r1i10r1i2r5i2r12i3r4i2 h0 m_thrown a_tape m_taped m_size m_at m_end m_token m_whole m_nameSize m_fault m_place m_trouble a_letters m_failed m_hasHouse a_r a_fresh a_st a_undone a_kept m_undos m_images a_from a_begin a_motor a_change a_startFrame a_changeFrame a_lostAt a_blackAt a_slips a_leftArc a_died a_arcs m_bestSum m_nearest m_nearestTown a_there a_backAt a_sorted a_parts m_seed1 m_darkNow)] [(cAI g a_tape 900 d_tape), (cAI g a_letters 8 d_letters), (cAI g a_fresh 311 d_fresh)] [0] [1, 2, 3] (m_badX l g h0 5 m_at m_thrown a_tape m_taped m_size m_at m_end m_token m_whole m_nameSize m_fault m_place m_trouble a_letters m_failed m_hasHouse a_r a_fresh a_st a_undone a_kept m_undos m_images a_from a_begin a_motor a_change a_startFrame a_changeFrame a_lostAt a_blackAt a_slips a_leftArc a_died a_arcs m_bestSum m_nearest m_nearestTown a_there a_backAt a_sorted a_parts m_seed1 m_darkNow (iv_w hv_m_failed (zle_e rfl) (zle_e rfl))) dX11_seenLine_k0.2.1.2.1 mw519 mw520 mw521 mw5 mw522 rfl 11 rfl rfl 0 _ rfl yk_yX11_bad_2 rfl (Nat.le_of_ble_eq_true rfl) (Nat.le_of_ble_eq_true rfl) (Nat.le_of_ble_eq_true rfl) (Nat.le_of_ble_eq_true rfl) (Nat.le_of_ble_eq_true rfl) rfl rfl (vnd_e rfl) rfl (vnd_e rfl) (dsj_e rfl) ?_
    rintro w ⟨m_failed2_160, m_fault2_161, m_place2_162, iv_164, hq_165, rfl⟩
    refine k_ws [(cAI g a_tape 900 d_tape), (cAI g a_letters 8 d_letters), (cAI g a_fresh 311 d_fresh), (cO11_i1r1i10r1i2r5i2r12i3r4i2 h0 m_thrown a_tape m_taped m_size m_at m_end m_token m_whole m_nameSize m_fault2_161 m_place2_162 m_trouble a_letters m_failed2_160 m_hasHouse a_r a_fresh a_st a_undone a_kept m_undos m_images a_from a_begin a_motor a_change a_startFrame a_changeFrame a_lostAt a_blackAt a_slips a_leftArc a_died a_arcs m_bestSum m_nearest m_nearestTown a_there a_backAt a_sorted a_parts m_seed1 m_darkNow)] rfl ?_
    refine k_aload_n X dX11_seenLine_k0.2.1.2.2 0 rfl ?_
    refine k_get (ci := 11) X inlX11 rfl 16 (nlt_e rfl) dX11_seenLine_k0.2.2.1.1 mw171 3 rfl rfl ?_
    refine k_bipush (v := 15) X dX11_seenLine_k0.2.2.1.2 bi_15 ?_
    refine k_iald X dX11_seenLine_k0.2.2.2.1 2 rfl (by unfold vp_in; decide) ?_
    refine k_nm (fun z_166 ez_166 => ?_)
    refine k_if_eq 41 X dX11_seenLine_k0.2.2.2.2 (jp_e rfl) (fun h_167 => ?_) (fun h_167 => ?_)
    · skip
      have iv_168 : IV z_166 0 0 := iv_meet (iv_any z_166) (iv_e h_167 iq_0_0_0) (zle_o rfl) (zle_o rfl)
      refine k_aload_n X dX11_seenLine_k1.1.2.1.2 0 rfl ?_
      refine k_bipush (v := 6) X dX11_seenLine_k1.1.2.2.1 bi_6 ?_
      refine k_aload_n X dX11_seenLine_k1.1.2.2.2 0 rfl ?_
      refine k_get (ci := 11) X inlX11 rfl 4 (nlt_e rfl) dX11_seenLine_k1.2.1.1.1 mw473 3 rfl rfl ?_
      refine k_callVV (n := 2) (As := [.int 6, .int m_at]) (st := []) X [(cO11_i1r1i10r1i2r5i2r12i3r4i2 h0 m_thrown a_tape m_taped m_size m_at m_end m_token m_whole m_nameSize m_fault2_161 m_place2_162 m_trouble a_letters m_failed2_160 m_hasHouse a_r a_fresh a_st a_undone a_kept m_undos m_images a_from a_begin a_motor a_change a_startFrame a_changeFrame a_lostAt a_blackAt a_slips a_leftArc a_died a_arcs m_bestSum m_nearest m_nearestTown a_there a_backAt a_sorted a_parts m_seed1 m_darkNow)] [(cAI g a_tape 900 d_tape), (cAI g a_letters 8 d_letters), (cAI g a_fresh 311 d_fresh)] [3] [0, 1, 2] (m_badX l g h0 6 m_at m_thrown a_tape m_taped m_size m_at m_end m_token m_whole m_nameSize m_fault2_161 m_place2_162 m_trouble a_letters m_failed2_160 m_hasHouse a_r a_fresh a_st a_undone a_kept m_undos m_images a_from a_begin a_motor a_change a_startFrame a_changeFrame a_lostAt a_blackAt a_slips a_leftArc a_died a_arcs m_bestSum m_nearest m_nearestTown a_there a_backAt a_sorted a_parts m_seed1 m_darkNow (iv_w iv_164 (zle_e rfl) (zle_e rfl))) dX11_seenLine_k1.2.1.1.2 mw519 mw520 mw521 mw5 mw522 rfl 11 rfl rfl 0 _ rfl yk_yX11_bad_2 rfl (Nat.le_of_ble_eq_true rfl) (Nat.le_of_ble_eq_true rfl) (Nat.le_of_ble_eq_true rfl) (Nat.le_of_ble_eq_true rfl) (Nat.le_of_ble_eq_true rfl) rfl rfl (vnd_e rfl) rfl (vnd_e rfl) (dsj_e rfl) ?_
      rintro w ⟨m_failed2_169, m_fault2_170, m_place2_171, iv_173, hq_174, rfl⟩
      refine k_ws [(cAI g a_tape 900 d_tape), (cAI g a_letters 8 d_letters), (cAI g a_fresh 311 d_fresh), (cO11_i1r1i10r1i2r5i2r12i3r4i2 h0 m_thrown a_tape m_taped m_size m_at m_end m_token m_whole m_nameSize m_fault2_170 m_place2_171 m_trouble a_letters m_failed2_169 m_hasHouse a_r a_fresh a_st a_undone a_kept m_undos m_images a_from a_begin a_motor a_change a_startFrame a_changeFrame a_lostAt a_blackAt a_slips a_leftArc a_died a_arcs m_bestSum m_nearest m_nearestTown a_there a_backAt a_sorted a_parts m_seed1 m_darkNow)] rfl ?_
      refine k_aload_n X dX11_seenLine_k1.2.1.2.1 0 rfl ?_
      refine k_get (ci := 11) X inlX11 rfl 13 (nlt_e rfl) dX11_seenLine_k1.2.1.2.2 mw469 3 rfl rfl ?_
      refine k_if_eq 59 X dX11_seenLine_k1.2.2.1.1 (jp_e rfl) (fun h_175 => (iv_eqN h_175 iv_173 iq_0_0_0 (by decide)).elim) (fun h_175 => ?_)
      exact k_vret X hr dX11_seenLine_k1.2.2.1.2 (Nat.le_of_ble_eq_true rfl) (Nat.le_of_ble_eq_true rfl) [3, 0, 1, 2] (vnd_e rfl) rfl rfl ⟨m_at, m_end, m_failed2_169, m_fault2_170, d_fresh, d_letters, m_nameSize, m_place2_171, m_token, m_whole, (iv_w hv_m_end (zle_e rfl) (zle_e rfl)), (iv_w iv_173 (zle_e rfl) (zle_e rfl)), (iv_w hv_m_nameSize (zle_e rfl) (zle_e rfl)), hp_d_fresh, (by omega), hr_0, ⟨z_1, ez_1, (Or.inr ⟨h_4, ⟨m_failed2_160, m_fault2_161, m_place2_162, hq_165, ⟨z_166, ez_166, (Or.inl ⟨h_167, ⟨m_failed2_169, m_fault2_170, m_place2_171, hq_174, ⟨rfl, rfl, rfl, rfl, rfl, rfl, rfl, rfl, rfl, rfl⟩⟩⟩)⟩⟩⟩)⟩, hc_0, rfl⟩
    · skip
      refine k_aload_n X dX11_seenLine_k1.1.1.1.1 0 rfl ?_
      refine k_get (ci := 11) X inlX11 rfl 16 (nlt_e rfl) dX11_seenLine_k1.1.1.1.2 mw171 3 rfl rfl ?_
      refine k_bipush (v := 12) X dX11_seenLine_k1.1.1.2.1 bi_12 ?_
      refine k_iald X dX11_seenLine_k1.1.1.2.2 2 rfl (by unfold vp_in; decide) ?_
      refine k_nm (fun z_176 ez_176 => ?_)
      have i_177 : z_176.toInt = (d_fresh 12).toInt := by rw [ez_176]; rfl
      have iv_178 : IV z_176 0 8 := rb_12 ez_176 hp_d_fresh
      refine k_if_ne 51 X dX11_seenLine_k1.1.2.1.1 (jp_e rfl) (fun h_179 => ?_) (fun h_179 => ?_)
      · skip
        have iv_180 : IV z_176 1 8 := iv_neL h_179 iv_178 iq_0_0_0 (zle_e rfl)
        refine k_aload_n X dX11_seenLine_k1.2.1.2.1 0 rfl ?_
        refine k_get (ci := 11) X inlX11 rfl 13 (nlt_e rfl) dX11_seenLine_k1.2.1.2.2 mw469 3 rfl rfl ?_
        refine k_if_eq 59 X dX11_seenLine_k1.2.2.1.1 (jp_e rfl) (fun h_181 => (iv_eqN h_181 iv_164 iq_0_0_0 (by decide)).elim) (fun h_181 => ?_)
        exact k_vret X hr dX11_seenLine_k1.2.2.1.2 (Nat.le_of_ble_eq_true rfl) (Nat.le_of_ble_eq_true rfl) [3, 0, 1, 2] (vnd_e rfl) rfl rfl ⟨m_at, m_end, m_failed2_160, m_fault2_161, d_fresh, d_letters, m_nameSize, m_place2_162, m_token, m_whole, (iv_w hv_m_end (zle_e rfl) (zle_e rfl)), (iv_w iv_164 (zle_e rfl) (zle_e rfl)), (iv_w hv_m_nameSize (zle_e rfl) (zle_e rfl)), hp_d_fresh, (by omega), hr_0, ⟨z_1, ez_1, (Or.inr ⟨h_4, ⟨m_failed2_160, m_fault2_161, m_place2_162, hq_165, ⟨z_166, ez_166, (Or.inr ⟨h_167, ⟨z_176, ez_176, (Or.inl ⟨h_179, ⟨rfl, rfl, rfl, rfl, rfl, rfl, rfl, rfl, rfl, rfl⟩⟩)⟩⟩)⟩⟩⟩)⟩, hc_0, rfl⟩
      · skip
        have iv_182 : IV z_176 0 0 := iv_meet iv_178 (iv_e h_179 iq_0_0_0) (zle_o rfl) (zle_o rfl)
        refine k_aload_n X dX11_seenLine_k1.1.2.1.2 0 rfl ?_
        refine k_bipush (v := 6) X dX11_seenLine_k1.1.2.2.1 bi_6 ?_
        refine k_aload_n X dX11_seenLine_k1.1.2.2.2 0 rfl ?_
        refine k_get (ci := 11) X inlX11 rfl 4 (nlt_e rfl) dX11_seenLine_k1.2.1.1.1 mw473 3 rfl rfl ?_
        refine k_callVV (n := 2) (As := [.int 6, .int m_at]) (st := []) X [(cO11_i1r1i10r1i2r5i2r12i3r4i2 h0 m_thrown a_tape m_taped m_size m_at m_end m_token m_whole m_nameSize m_fault2_161 m_place2_162 m_trouble a_letters m_failed2_160 m_hasHouse a_r a_fresh a_st a_undone a_kept m_undos m_images a_from a_begin a_motor a_change a_startFrame a_changeFrame a_lostAt a_blackAt a_slips a_leftArc a_died a_arcs m_bestSum m_nearest m_nearestTown a_there a_backAt a_sorted a_parts m_seed1 m_darkNow)] [(cAI g a_tape 900 d_tape), (cAI g a_letters 8 d_letters), (cAI g a_fresh 311 d_fresh)] [3] [0, 1, 2] (m_badX l g h0 6 m_at m_thrown a_tape m_taped m_size m_at m_end m_token m_whole m_nameSize m_fault2_161 m_place2_162 m_trouble a_letters m_failed2_160 m_hasHouse a_r a_fresh a_st a_undone a_kept m_undos m_images a_from a_begin a_motor a_change a_startFrame a_changeFrame a_lostAt a_blackAt a_slips a_leftArc a_died a_arcs m_bestSum m_nearest m_nearestTown a_there a_backAt a_sorted a_parts m_seed1 m_darkNow (iv_w iv_164 (zle_e rfl) (zle_e rfl))) dX11_seenLine_k1.2.1.1.2 mw519 mw520 mw521 mw5 mw522 rfl 11 rfl rfl 0 _ rfl yk_yX11_bad_2 rfl (Nat.le_of_ble_eq_true rfl) (Nat.le_of_ble_eq_true rfl) (Nat.le_of_ble_eq_true rfl) (Nat.le_of_ble_eq_true rfl) (Nat.le_of_ble_eq_true rfl) rfl rfl (vnd_e rfl) rfl (vnd_e rfl) (dsj_e rfl) ?_
        rintro w ⟨m_failed2_183, m_fault2_184, m_place2_185, iv_187, hq_188, rfl⟩
        refine k_ws [(cAI g a_tape 900 d_tape), (cAI g a_letters 8 d_letters), (cAI g a_fresh 311 d_fresh), (cO11_i1r1i10r1i2r5i2r12i3r4i2 h0 m_thrown a_tape m_taped m_size m_at m_end m_token m_whole m_nameSize m_fault2_184 m_place2_185 m_trouble a_letters m_failed2_183 m_hasHouse a_r a_fresh a_st a_undone a_kept m_undos m_images a_from a_begin a_motor a_change a_startFrame a_changeFrame a_lostAt a_blackAt a_slips a_leftArc a_died a_arcs m_bestSum m_nearest m_nearestTown a_there a_backAt a_sorted a_parts m_seed1 m_darkNow)] rfl ?_
        refine k_aload_n X dX11_seenLine_k1.2.1.2.1 0 rfl ?_
        refine k_get (ci := 11) X inlX11 rfl 13 (nlt_e rfl) dX11_seenLine_k1.2.1.2.2 mw469 3 rfl rfl ?_
        refine k_if_eq 59 X dX11_seenLine_k1.2.2.1.1 (jp_e rfl) (fun h_189 => (iv_eqN h_189 iv_187 iq_0_0_0 (by decide)).elim) (fun h_189 => ?_)
        exact k_vret X hr dX11_seenLine_k1.2.2.1.2 (Nat.le_of_ble_eq_true rfl) (Nat.le_of_ble_eq_true rfl) [3, 0, 1, 2] (vnd_e rfl) rfl rfl ⟨m_at, m_end, m_failed2_183, m_fault2_184, d_fresh, d_letters, m_nameSize, m_place2_185, m_token, m_whole, (iv_w hv_m_end (zle_e rfl) (zle_e rfl)), (iv_w iv_187 (zle_e rfl) (zle_e rfl)), (iv_w hv_m_nameSize (zle_e rfl) (zle_e rfl)), hp_d_fresh, (by omega), hr_0, ⟨z_1, ez_1, (Or.inr ⟨h_4, ⟨m_failed2_160, m_fault2_161, m_place2_162, hq_165, ⟨z_166, ez_166, (Or.inr ⟨h_167, ⟨z_176, ez_176, (Or.inr ⟨h_179, ⟨m_failed2_183, m_fault2_184, m_place2_185, hq_188, ⟨rfl, rfl, rfl, rfl, rfl, rfl, rfl, rfl, rfl, rfl⟩⟩⟩)⟩⟩)⟩⟩⟩)⟩, hc_0, rfl⟩


set_option maxHeartbeats 4000000 in
set_option maxRecDepth 100000 in
theorem m_readLineX (l : Launch) (g : Gx) (h0 : Nat) (m_thrown : Int32) (a_tape : Nat) (m_taped : Int32) (m_size : Int32) (m_at : Int32) (m_end : Int32) (m_token : Int32) (m_whole : Int32) (m_nameSize : Int32) (m_fault : Int32) (m_place : Int32) (m_trouble : Int32) (a_letters : Nat) (m_failed : Int32) (m_hasHouse : Int32) (a_r : Nat) (a_fresh : Nat) (a_st : Nat) (a_undone : Nat) (a_kept : Nat) (m_undos : Int32) (m_images : Int32) (a_from : Nat) (a_begin : Nat) (a_motor : Nat) (a_change : Nat) (a_startFrame : Nat) (a_changeFrame : Nat) (a_lostAt : Nat) (a_blackAt : Nat) (a_slips : Nat) (a_leftArc : Nat) (a_died : Nat) (a_arcs : Nat) (m_bestSum : Int32) (m_nearest : Int32) (m_nearestTown : Int32) (a_there : Nat) (a_backAt : Nat) (a_sorted : Nat) (a_parts : Nat) (m_seed1 : Int32) (m_darkNow : Int32) (d_tape : Nat → Int32) (d_letters : Nat → Int32) (d_fresh : Nat → Int32) (hv_m_size : IV m_size 0 900) (hv_m_end : IV m_end 0 900) (hv_m_nameSize : IV m_nameSize 0 900) (hv_m_failed : IV m_failed 0 1) (hp_d_fresh : RInv d_fresh) (hr_0 : TRI d_fresh) (hc_0 : m_token = 2 → IV m_nameSize 0 8) : cV l g yX11_readLine cX11_readLine 1 9 198 0 0 [.ref h0] [(cO11_i1r1i10r1i2r5i2r12i3r4i2 h0 m_thrown a_tape m_taped m_size m_at m_end m_token m_whole m_nameSize m_fault m_place m_trouble a_letters m_failed m_hasHouse a_r a_fresh a_st a_undone a_kept m_undos m_images a_from a_begin a_motor a_change a_startFrame a_changeFrame a_lostAt a_blackAt a_slips a_leftArc a_died a_arcs m_bestSum m_nearest m_nearestTown a_there a_backAt a_sorted a_parts m_seed1 m_darkNow), (cAI g a_tape 900 d_tape), (cAI g a_letters 8 d_letters), (cAI g a_fresh 311 d_fresh)] (fun w => ∃ (m_at2 : Int32) (m_end2 : Int32) (m_failed2 : Int32) (m_fault2 : Int32) (d_fresh2 : Nat → Int32) (d_letters2 : Nat → Int32) (m_nameSize2 : Int32) (m_place2 : Int32) (m_token2 : Int32) (m_whole2 : Int32), IV m_end2 0 900 ∧ IV m_failed2 0 1 ∧ IV m_nameSize2 0 900 ∧ RInv d_fresh2 ∧ (m_failed2.toInt = 1 ∨ m_token.toInt = 2) ∧ (m_end.toInt ≤ m_end2.toInt) ∧ (TRI d_fresh2) ∧ (R_m_readLineX m_size m_at m_end m_token m_whole m_nameSize m_fault m_place m_failed d_tape d_letters d_fresh m_at2 m_end2 m_failed2 m_fault2 d_fresh2 d_letters2 m_nameSize2 m_place2 m_token2 m_whole2) ∧ (m_token2 = 2 → IV m_nameSize2 0 8) ∧ w = [(cO11_i1r1i10r1i2r5i2r12i3r4i2 h0 m_thrown a_tape m_taped m_size m_at2 m_end2 m_token2 m_whole2 m_nameSize2 m_fault2 m_place2 m_trouble a_letters m_failed2 m_hasHouse a_r a_fresh a_st a_undone a_kept m_undos m_images a_from a_begin a_motor a_change a_startFrame a_changeFrame a_lostAt a_blackAt a_slips a_leftArc a_died a_arcs m_bestSum m_nearest m_nearestTown a_there a_backAt a_sorted a_parts m_seed1 m_darkNow), (cAI g a_tape 900 d_tape), (cAI g a_letters 8 d_letters2), (cAI g a_fresh 311 d_fresh2)]) := by
  refine cV.of (by decide) (Nat.le_of_ble_eq_true rfl) ?_
  intro p e s m args below meth c A X hr hi
  refine k_lveq [(0, .ref h0)] rfl ?_
  refine k_aload_n X dX11_readLine_k0.1.1.1.1 0 rfl ?_
  refine k_ldcS (tx := "house") X dX11_readLine_k0.1.1.1.2 (by decide +kernel) (fun sr_1 hsr_1 => ?_)
  refine k_callVI (n := 1) (As := [.ref sr_1]) (st := []) X [(cO11_i1r1i10r1i2r5i2r12i3r4i2 h0 m_thrown a_tape m_taped m_size m_at m_end m_token m_whole m_nameSize m_fault m_place m_trouble a_letters m_failed m_hasHouse a_r a_fresh a_st a_undone a_kept m_undos m_images a_from a_begin a_motor a_change a_startFrame a_changeFrame a_lostAt a_blackAt a_slips a_leftArc a_died a_arcs m_bestSum m_nearest m_nearestTown a_there a_backAt a_sorted a_parts m_seed1 m_darkNow), (cAI g a_letters 8 d_letters)] [(cAI g a_tape 900 d_tape), (cAI g a_fresh 311 d_fresh)] [0, 2] [1, 3] (m_isWordX l g h0 sr_1 m_thrown a_tape m_taped m_size m_at m_end m_token m_whole m_nameSize m_fault m_place m_trouble a_letters m_failed m_hasHouse a_r a_fresh a_st a_undone a_kept m_undos m_images a_from a_begin a_motor a_change a_startFrame a_changeFrame a_lostAt a_blackAt a_slips a_leftArc a_died a_arcs m_bestSum m_nearest m_nearestTown a_there a_backAt a_sorted a_parts m_seed1 m_darkNow d_letters ("house") (iv_w hv_m_nameSize (zle_e rfl) (zle_e rfl)) (iv_w hv_m_failed (zle_e rfl) (zle_e rfl)) hsr_1 hc_0) dX11_readLine_k0.1.1.2.1 mw509 mw510 mw511 mw5 mw512 rfl 11 rfl rfl 0 _ rfl yk_yX11_isWord_1 rfl (Nat.le_of_ble_eq_true rfl) (Nat.le_of_ble_eq_true rfl) (Nat.le_of_ble_eq_true rfl) (Nat.le_of_ble_eq_true rfl) (Nat.le_of_ble_eq_true rfl) rfl rfl (vnd_e rfl) rfl (vnd_e rfl) (dsj_e rfl) ?_
  rintro r_2 w ⟨iv_3, hq_4, hk_5, rfl⟩
  refine k_ws [(cAI g a_tape 900 d_tape), (cAI g a_fresh 311 d_fresh), (cO11_i1r1i10r1i2r5i2r12i3r4i2 h0 m_thrown a_tape m_taped m_size m_at m_end m_token m_whole m_nameSize m_fault m_place m_trouble a_letters m_failed m_hasHouse a_r a_fresh a_st a_undone a_kept m_undos m_images a_from a_begin a_motor a_change a_startFrame a_changeFrame a_lostAt a_blackAt a_slips a_leftArc a_died a_arcs m_bestSum m_nearest m_nearestTown a_there a_backAt a_sorted a_parts m_seed1 m_darkNow), (cAI g a_letters 8 d_letters)] rfl ?_
  refine k_if_eq 16 X dX11_readLine_k0.1.1.2.2 (jp_e rfl) (fun h_6 => ?_) (fun h_6 => ?_)
  · skip
    have iv_7 : IV r_2 0 0 := iv_meet iv_3 (iv_e h_6 iq_0_0_0) (zle_o rfl) (zle_o rfl)
    refine k_aload_n X dX11_readLine_k0.1.2.2.2 0 rfl ?_
    refine k_ldcS (tx := "reel") X dX11_readLine_k0.2.1.1.1 (by decide +kernel) (fun sr_8 hsr_8 => ?_)
    refine k_aload_n X dX11_readLine_k0.2.1.1.2 0 rfl ?_
    refine k_get (ci := 11) X inlX11 rfl 16 (nlt_e rfl) dX11_readLine_k0.2.1.2.1 mw171 2 rfl rfl ?_
    refine k_bipush (v := 6) X dX11_readLine_k0.2.1.2.2 bi_6 ?_
    refine k_iald X dX11_readLine_k0.2.2.1.1 1 rfl (by unfold vp_in; decide) ?_
    refine k_nm (fun z_9 ez_9 => ?_)
    have i_10 : z_9.toInt = (d_fresh 6).toInt := by rw [ez_9]; rfl
    have iv_11 : IV z_9 0 8 := rb_6 ez_9 hp_d_fresh
    refine k_bipush (v := 8) X dX11_readLine_k0.2.2.1.2 bi_8 ?_
    refine k_join (fun b_12 => (((b_12 = 0 ∨ z_9.toInt < 8) ∧ IV b_12 0 1) ∧ (((((8 : Int32) ≤ z_9) ∧ (b_12 = 0)) ∨ ((¬ ((8 : Int32) ≤ z_9)) ∧ (b_12 = 1)))))) 36 [.ref sr_8, .ref h0] (fun hJ => ?_) (fun b_12 hb_13 => ?_)
    · skip
      refine k_ic_ge 35 X dX11_readLine_k0.2.2.2.1 (jp_e rfl) (fun h_16 => ?_) (fun h_16 => ?_)
      · skip
        have j_17 : 8 ≤ z_9.toInt := iv_le h_16
        have iv_18 : IV z_9 8 8 := iv_leR (iv_le h_16) iq_8_8_8 iv_11 (zle_e rfl)
        refine k_iconst (v := 0) X dX11_readLine_k1.1.1.1.2 ic_0 ?_
        exact hJ 0 ⟨⟨by first | exact Or.inl rfl | exact Or.inr trivial | exact Or.inr (by omega), by decide⟩, (Or.inl ⟨h_16, rfl⟩)⟩
      · skip
        have j_19 : z_9.toInt < 8 := iv_nle h_16
        have iv_20 : IV z_9 0 7 := iv_ltL (iv_nle h_16) iv_11 iq_8_8_8 (zle_e rfl)
        refine k_iconst (v := 1) X dX11_readLine_k0.2.2.2.2 ic_1 ?_
        refine k_goto 36 X dX11_readLine_k1.1.1.1.1 (jp_e rfl) ?_
        exact hJ 1 ⟨⟨by first | exact Or.inl rfl | exact Or.inr trivial | exact Or.inr (by omega), by decide⟩, (Or.inr ⟨h_16, rfl⟩)⟩
    · skip
      obtain ⟨⟨hb_13, hv_14⟩, hj_15⟩ := hb_13
      refine k_callVI (n := 2) (As := [.ref sr_8, .int b_12]) (st := []) X [(cO11_i1r1i10r1i2r5i2r12i3r4i2 h0 m_thrown a_tape m_taped m_size m_at m_end m_token m_whole m_nameSize m_fault m_place m_trouble a_letters m_failed m_hasHouse a_r a_fresh a_st a_undone a_kept m_undos m_images a_from a_begin a_motor a_change a_startFrame a_changeFrame a_lostAt a_blackAt a_slips a_leftArc a_died a_arcs m_bestSum m_nearest m_nearestTown a_there a_backAt a_sorted a_parts m_seed1 m_darkNow), (cAI g a_tape 900 d_tape), (cAI g a_letters 8 d_letters), (cAI g a_fresh 311 d_fresh)] [] [2, 0, 3, 1] [] (m_opensX l g h0 sr_8 b_12 m_thrown a_tape m_taped m_size m_at m_end m_token m_whole m_nameSize m_fault m_place m_trouble a_letters m_failed m_hasHouse a_r a_fresh a_st a_undone a_kept m_undos m_images a_from a_begin a_motor a_change a_startFrame a_changeFrame a_lostAt a_blackAt a_slips a_leftArc a_died a_arcs m_bestSum m_nearest m_nearestTown a_there a_backAt a_sorted a_parts m_seed1 m_darkNow d_tape d_letters d_fresh ("reel") (iv_w hv_14 (zle_e rfl) (zle_e rfl)) (iv_w hv_m_size (zle_e rfl) (zle_e rfl)) (iv_w hv_m_end (zle_e rfl) (zle_e rfl)) (iv_w hv_m_nameSize (zle_e rfl) (zle_e rfl)) (iv_w hv_m_failed (zle_e rfl) (zle_e rfl)) hp_d_fresh hsr_8 hc_0) dX11_readLine_k1.1.1.2.1 mw543 mw544 mw545 mw5 mw546 rfl 11 rfl rfl 0 _ rfl yk_yX11_opens_2 rfl (Nat.le_of_ble_eq_true rfl) (Nat.le_of_ble_eq_true rfl) (Nat.le_of_ble_eq_true rfl) (Nat.le_of_ble_eq_true rfl) (Nat.le_of_ble_eq_true rfl) rfl rfl (vnd_e rfl) rfl (vnd_e rfl) (dsj_e rfl) ?_
      intro r_30 w zq
      refine exE9 zq ?_
      clear zq
      intro m_at2_21 m_end2_22 m_failed2_23 m_fault2_24 d_letters2_25 m_nameSize2_26 m_place2_27 m_token2_28 m_whole2_29 iv_31 zq
      refine exA9 zq ?_
      clear zq
      intro iv_32 iv_33 iv_34 hq_35 hq_36 hq_37 hq_38 hk_39 hk_40 zq
      subst zq
      refine k_ws [(cO11_i1r1i10r1i2r5i2r12i3r4i2 h0 m_thrown a_tape m_taped m_size m_at2_21 m_end2_22 m_token2_28 m_whole2_29 m_nameSize2_26 m_fault2_24 m_place2_27 m_trouble a_letters m_failed2_23 m_hasHouse a_r a_fresh a_st a_undone a_kept m_undos m_images a_from a_begin a_motor a_change a_startFrame a_changeFrame a_lostAt a_blackAt a_slips a_leftArc a_died a_arcs m_bestSum m_nearest m_nearestTown a_there a_backAt a_sorted a_parts m_seed1 m_darkNow), (cAI g a_tape 900 d_tape), (cAI g a_letters 8 d_letters2_25), (cAI g a_fresh 311 d_fresh)] rfl ?_
      refine k_if_eq 49 X dX11_readLine_k1.1.1.2.2 (jp_e rfl) (fun h_41 => ?_) (fun h_41 => ?_)
      · skip
        have iv_42 : IV r_30 0 0 := iv_meet iv_34 (iv_e h_41 iq_0_0_0) (zle_o rfl) (zle_o rfl)
        refine k_aload_n X dX11_readLine_k1.1.2.2.2 0 rfl ?_
        refine k_ldcS (tx := "town") X dX11_readLine_k1.2.1.1.1 (by decide +kernel) (fun sr_43 hsr_43 => ?_)
        refine k_aload_n X dX11_readLine_k1.2.1.1.2 0 rfl ?_
        refine k_get (ci := 11) X inlX11 rfl 16 (nlt_e rfl) dX11_readLine_k1.2.1.2.1 mw171 0 rfl rfl ?_
        refine k_bipush (v := 7) X dX11_readLine_k1.2.1.2.2 bi_7 ?_
        refine k_iald X dX11_readLine_k1.2.2.1.1 3 rfl (by unfold vp_in; decide) ?_
        refine k_nm (fun z_44 ez_44 => ?_)
        have i_45 : z_44.toInt = (d_fresh 7).toInt := by rw [ez_44]; rfl
        have iv_46 : IV z_44 0 4 := rb_7 ez_44 hp_d_fresh
        refine k_iconst (v := 4) X dX11_readLine_k1.2.2.1.2 ic_4 ?_
        refine k_join (fun b_47 => (((b_47 = 0 ∨ z_44.toInt < 4) ∧ IV b_47 0 1) ∧ (((((4 : Int32) ≤ z_44) ∧ (b_47 = 0)) ∨ ((¬ ((4 : Int32) ≤ z_44)) ∧ (b_47 = 1)))))) 68 [.ref sr_43, .ref h0] (fun hJ => ?_) (fun b_47 hb_48 => ?_)
        · skip
          refine k_ic_ge 67 X dX11_readLine_k1.2.2.2.1 (jp_e rfl) (fun h_51 => ?_) (fun h_51 => ?_)
          · skip
            have j_52 : 4 ≤ z_44.toInt := iv_le h_51
            have iv_53 : IV z_44 4 4 := iv_leR (iv_le h_51) iq_4_4_4 iv_46 (zle_e rfl)
            refine k_iconst (v := 0) X dX11_readLine_k2.1.1.1.2 ic_0 ?_
            exact hJ 0 ⟨⟨by first | exact Or.inl rfl | exact Or.inr trivial | exact Or.inr (by omega), by decide⟩, (Or.inl ⟨h_51, rfl⟩)⟩
          · skip
            have j_54 : z_44.toInt < 4 := iv_nle h_51
            have iv_55 : IV z_44 0 3 := iv_ltL (iv_nle h_51) iv_46 iq_4_4_4 (zle_e rfl)
            refine k_iconst (v := 1) X dX11_readLine_k1.2.2.2.2 ic_1 ?_
            refine k_goto 68 X dX11_readLine_k2.1.1.1.1 (jp_e rfl) ?_
            exact hJ 1 ⟨⟨by first | exact Or.inl rfl | exact Or.inr trivial | exact Or.inr (by omega), by decide⟩, (Or.inr ⟨h_51, rfl⟩)⟩
        · skip
          obtain ⟨⟨hb_48, hv_49⟩, hj_50⟩ := hb_48
          refine k_callVI (n := 2) (As := [.ref sr_43, .int b_47]) (st := []) X [(cO11_i1r1i10r1i2r5i2r12i3r4i2 h0 m_thrown a_tape m_taped m_size m_at2_21 m_end2_22 m_token2_28 m_whole2_29 m_nameSize2_26 m_fault2_24 m_place2_27 m_trouble a_letters m_failed2_23 m_hasHouse a_r a_fresh a_st a_undone a_kept m_undos m_images a_from a_begin a_motor a_change a_startFrame a_changeFrame a_lostAt a_blackAt a_slips a_leftArc a_died a_arcs m_bestSum m_nearest m_nearestTown a_there a_backAt a_sorted a_parts m_seed1 m_darkNow), (cAI g a_tape 900 d_tape), (cAI g a_letters 8 d_letters2_25), (cAI g a_fresh 311 d_fresh)] [] [0, 1, 2, 3] [] (m_opensX l g h0 sr_43 b_47 m_thrown a_tape m_taped m_size m_at2_21 m_end2_22 m_token2_28 m_whole2_29 m_nameSize2_26 m_fault2_24 m_place2_27 m_trouble a_letters m_failed2_23 m_hasHouse a_r a_fresh a_st a_undone a_kept m_undos m_images a_from a_begin a_motor a_change a_startFrame a_changeFrame a_lostAt a_blackAt a_slips a_leftArc a_died a_arcs m_bestSum m_nearest m_nearestTown a_there a_backAt a_sorted a_parts m_seed1 m_darkNow d_tape d_letters2_25 d_fresh ("town") (iv_w hv_49 (zle_e rfl) (zle_e rfl)) (iv_w hv_m_size (zle_e rfl) (zle_e rfl)) (iv_w iv_31 (zle_e rfl) (zle_e rfl)) (iv_w iv_33 (zle_e rfl) (zle_e rfl)) (iv_w iv_32 (zle_e rfl) (zle_e rfl)) hp_d_fresh hsr_43 hk_40) dX11_readLine_k2.1.1.2.1 mw543 mw544 mw545 mw5 mw546 rfl 11 rfl rfl 0 _ rfl yk_yX11_opens_2 rfl (Nat.le_of_ble_eq_true rfl) (Nat.le_of_ble_eq_true rfl) (Nat.le_of_ble_eq_true rfl) (Nat.le_of_ble_eq_true rfl) (Nat.le_of_ble_eq_true rfl) rfl rfl (vnd_e rfl) rfl (vnd_e rfl) (dsj_e rfl) ?_
          intro r_65 w zq
          refine exE9 zq ?_
          clear zq
          intro m_at2_56 m_end2_57 m_failed2_58 m_fault2_59 d_letters2_60 m_nameSize2_61 m_place2_62 m_token2_63 m_whole2_64 iv_66 zq
          refine exA9 zq ?_
          clear zq
          intro iv_67 iv_68 iv_69 hq_70 hq_71 hq_72 hq_73 hk_74 hk_75 zq
          subst zq
          refine k_ws [(cO11_i1r1i10r1i2r5i2r12i3r4i2 h0 m_thrown a_tape m_taped m_size m_at2_56 m_end2_57 m_token2_63 m_whole2_64 m_nameSize2_61 m_fault2_59 m_place2_62 m_trouble a_letters m_failed2_58 m_hasHouse a_r a_fresh a_st a_undone a_kept m_undos m_images a_from a_begin a_motor a_change a_startFrame a_changeFrame a_lostAt a_blackAt a_slips a_leftArc a_died a_arcs m_bestSum m_nearest m_nearestTown a_there a_backAt a_sorted a_parts m_seed1 m_darkNow), (cAI g a_tape 900 d_tape), (cAI g a_letters 8 d_letters2_60), (cAI g a_fresh 311 d_fresh)] rfl ?_
          refine k_if_eq 81 X dX11_readLine_k2.1.1.2.2 (jp_e rfl) (fun h_76 => ?_) (fun h_76 => ?_)
          · skip
            have iv_77 : IV r_65 0 0 := iv_meet iv_69 (iv_e h_76 iq_0_0_0) (zle_o rfl) (zle_o rfl)
            refine k_aload_n X dX11_readLine_k2.1.2.2.2 0 rfl ?_
            refine k_ldcS (tx := "mark") X dX11_readLine_k2.2.1.1.1 (by decide +kernel) (fun sr_78 hsr_78 => ?_)
            refine k_aload_n X dX11_readLine_k2.2.1.1.2 0 rfl ?_
            refine k_get (ci := 11) X inlX11 rfl 16 (nlt_e rfl) dX11_readLine_k2.2.1.2.1 mw171 0 rfl rfl ?_
            refine k_bipush (v := 8) X dX11_readLine_k2.2.1.2.2 bi_8 ?_
            refine k_iald X dX11_readLine_k2.2.2.1.1 3 rfl (by unfold vp_in; decide) ?_
            refine k_nm (fun z_79 ez_79 => ?_)
            have i_80 : z_79.toInt = (d_fresh 8).toInt := by rw [ez_79]; rfl
            have iv_81 : IV z_79 0 12 := rb_8 ez_79 hp_d_fresh
            refine k_bipush (v := 12) X dX11_readLine_k2.2.2.1.2 bi_12 ?_
            refine k_join (fun b_82 => (((b_82 = 0 ∨ z_79.toInt < 12) ∧ IV b_82 0 1) ∧ (((((12 : Int32) ≤ z_79) ∧ (b_82 = 0)) ∨ ((¬ ((12 : Int32) ≤ z_79)) ∧ (b_82 = 1)))))) 101 [.ref sr_78, .ref h0] (fun hJ => ?_) (fun b_82 hb_83 => ?_)
            · skip
              refine k_ic_ge 100 X dX11_readLine_k2.2.2.2.1 (jp_e rfl) (fun h_86 => ?_) (fun h_86 => ?_)
              · skip
                have j_87 : 12 ≤ z_79.toInt := iv_le h_86
                have iv_88 : IV z_79 12 12 := iv_leR (iv_le h_86) iq_12_12_12 iv_81 (zle_e rfl)
                refine k_iconst (v := 0) X dX11_readLine_k3.1.1.1.2 ic_0 ?_
                exact hJ 0 ⟨⟨by first | exact Or.inl rfl | exact Or.inr trivial | exact Or.inr (by omega), by decide⟩, (Or.inl ⟨h_86, rfl⟩)⟩
              · skip
                have j_89 : z_79.toInt < 12 := iv_nle h_86
                have iv_90 : IV z_79 0 11 := iv_ltL (iv_nle h_86) iv_81 iq_12_12_12 (zle_e rfl)
                refine k_iconst (v := 1) X dX11_readLine_k2.2.2.2.2 ic_1 ?_
                refine k_goto 101 X dX11_readLine_k3.1.1.1.1 (jp_e rfl) ?_
                exact hJ 1 ⟨⟨by first | exact Or.inl rfl | exact Or.inr trivial | exact Or.inr (by omega), by decide⟩, (Or.inr ⟨h_86, rfl⟩)⟩
            · skip
              obtain ⟨⟨hb_83, hv_84⟩, hj_85⟩ := hb_83
              refine k_callVI (n := 2) (As := [.ref sr_78, .int b_82]) (st := []) X [(cO11_i1r1i10r1i2r5i2r12i3r4i2 h0 m_thrown a_tape m_taped m_size m_at2_56 m_end2_57 m_token2_63 m_whole2_64 m_nameSize2_61 m_fault2_59 m_place2_62 m_trouble a_letters m_failed2_58 m_hasHouse a_r a_fresh a_st a_undone a_kept m_undos m_images a_from a_begin a_motor a_change a_startFrame a_changeFrame a_lostAt a_blackAt a_slips a_leftArc a_died a_arcs m_bestSum m_nearest m_nearestTown a_there a_backAt a_sorted a_parts m_seed1 m_darkNow), (cAI g a_tape 900 d_tape), (cAI g a_letters 8 d_letters2_60), (cAI g a_fresh 311 d_fresh)] [] [0, 1, 2, 3] [] (m_opensX l g h0 sr_78 b_82 m_thrown a_tape m_taped m_size m_at2_56 m_end2_57 m_token2_63 m_whole2_64 m_nameSize2_61 m_fault2_59 m_place2_62 m_trouble a_letters m_failed2_58 m_hasHouse a_r a_fresh a_st a_undone a_kept m_undos m_images a_from a_begin a_motor a_change a_startFrame a_changeFrame a_lostAt a_blackAt a_slips a_leftArc a_died a_arcs m_bestSum m_nearest m_nearestTown a_there a_backAt a_sorted a_parts m_seed1 m_darkNow d_tape d_letters2_60 d_fresh ("mark") (iv_w hv_84 (zle_e rfl) (zle_e rfl)) (iv_w hv_m_size (zle_e rfl) (zle_e rfl)) (iv_w iv_66 (zle_e rfl) (zle_e rfl)) (iv_w iv_68 (zle_e rfl) (zle_e rfl)) (iv_w iv_67 (zle_e rfl) (zle_e rfl)) hp_d_fresh hsr_78 hk_75) dX11_readLine_k3.1.1.2.1 mw543 mw544 mw545 mw5 mw546 rfl 11 rfl rfl 0 _ rfl yk_yX11_opens_2 rfl (Nat.le_of_ble_eq_true rfl) (Nat.le_of_ble_eq_true rfl) (Nat.le_of_ble_eq_true rfl) (Nat.le_of_ble_eq_true rfl) (Nat.le_of_ble_eq_true rfl) rfl rfl (vnd_e rfl) rfl (vnd_e rfl) (dsj_e rfl) ?_
              intro r_100 w zq
              refine exE9 zq ?_
              clear zq
              intro m_at2_91 m_end2_92 m_failed2_93 m_fault2_94 d_letters2_95 m_nameSize2_96 m_place2_97 m_token2_98 m_whole2_99 iv_101 zq
              refine exA9 zq ?_
              clear zq
              intro iv_102 iv_103 iv_104 hq_105 hq_106 hq_107 hq_108 hk_109 hk_110 zq
              subst zq
              refine k_ws [(cO11_i1r1i10r1i2r5i2r12i3r4i2 h0 m_thrown a_tape m_taped m_size m_at2_91 m_end2_92 m_token2_98 m_whole2_99 m_nameSize2_96 m_fault2_94 m_place2_97 m_trouble a_letters m_failed2_93 m_hasHouse a_r a_fresh a_st a_undone a_kept m_undos m_images a_from a_begin a_motor a_change a_startFrame a_changeFrame a_lostAt a_blackAt a_slips a_leftArc a_died a_arcs m_bestSum m_nearest m_nearestTown a_there a_backAt a_sorted a_parts m_seed1 m_darkNow), (cAI g a_tape 900 d_tape), (cAI g a_letters 8 d_letters2_95), (cAI g a_fresh 311 d_fresh)] rfl ?_
              refine k_if_eq 114 X dX11_readLine_k3.1.1.2.2 (jp_e rfl) (fun h_111 => ?_) (fun h_111 => ?_)
              · skip
                have iv_112 : IV r_100 0 0 := iv_meet iv_104 (iv_e h_111 iq_0_0_0) (zle_o rfl) (zle_o rfl)
                refine k_aload_n X dX11_readLine_k3.1.2.2.2 0 rfl ?_
                refine k_ldcS (tx := "join") X dX11_readLine_k3.2.1.1.1 (by decide +kernel) (fun sr_113 hsr_113 => ?_)
                refine k_aload_n X dX11_readLine_k3.2.1.1.2 0 rfl ?_
                refine k_get (ci := 11) X inlX11 rfl 16 (nlt_e rfl) dX11_readLine_k3.2.1.2.1 mw171 0 rfl rfl ?_
                refine k_bipush (v := 9) X dX11_readLine_k3.2.1.2.2 bi_9 ?_
                refine k_iald X dX11_readLine_k3.2.2.1.1 3 rfl (by unfold vp_in; decide) ?_
                refine k_nm (fun z_114 ez_114 => ?_)
                have i_115 : z_114.toInt = (d_fresh 9).toInt := by rw [ez_114]; rfl
                have iv_116 : IV z_114 0 8 := rb_9 ez_114 hp_d_fresh
                refine k_bipush (v := 8) X dX11_readLine_k3.2.2.1.2 bi_8 ?_
                refine k_join (fun b_117 => (((b_117 = 0 ∨ z_114.toInt < 8) ∧ IV b_117 0 1) ∧ (((((8 : Int32) ≤ z_114) ∧ (b_117 = 0)) ∨ ((¬ ((8 : Int32) ≤ z_114)) ∧ (b_117 = 1)))))) 134 [.ref sr_113, .ref h0] (fun hJ => ?_) (fun b_117 hb_118 => ?_)
                · skip
                  refine k_ic_ge 133 X dX11_readLine_k3.2.2.2.1 (jp_e rfl) (fun h_121 => ?_) (fun h_121 => ?_)
                  · skip
                    have j_122 : 8 ≤ z_114.toInt := iv_le h_121
                    have iv_123 : IV z_114 8 8 := iv_leR (iv_le h_121) iq_8_8_8 iv_116 (zle_e rfl)
                    refine k_iconst (v := 0) X dX11_readLine_k4.1.1.1.2 ic_0 ?_
                    exact hJ 0 ⟨⟨by first | exact Or.inl rfl | exact Or.inr trivial | exact Or.inr (by omega), by decide⟩, (Or.inl ⟨h_121, rfl⟩)⟩
                  · skip
                    have j_124 : z_114.toInt < 8 := iv_nle h_121
                    have iv_125 : IV z_114 0 7 := iv_ltL (iv_nle h_121) iv_116 iq_8_8_8 (zle_e rfl)
                    refine k_iconst (v := 1) X dX11_readLine_k3.2.2.2.2 ic_1 ?_
                    refine k_goto 134 X dX11_readLine_k4.1.1.1.1 (jp_e rfl) ?_
                    exact hJ 1 ⟨⟨by first | exact Or.inl rfl | exact Or.inr trivial | exact Or.inr (by omega), by decide⟩, (Or.inr ⟨h_121, rfl⟩)⟩
                · skip
                  obtain ⟨⟨hb_118, hv_119⟩, hj_120⟩ := hb_118
                  refine k_callVI (n := 2) (As := [.ref sr_113, .int b_117]) (st := []) X [(cO11_i1r1i10r1i2r5i2r12i3r4i2 h0 m_thrown a_tape m_taped m_size m_at2_91 m_end2_92 m_token2_98 m_whole2_99 m_nameSize2_96 m_fault2_94 m_place2_97 m_trouble a_letters m_failed2_93 m_hasHouse a_r a_fresh a_st a_undone a_kept m_undos m_images a_from a_begin a_motor a_change a_startFrame a_changeFrame a_lostAt a_blackAt a_slips a_leftArc a_died a_arcs m_bestSum m_nearest m_nearestTown a_there a_backAt a_sorted a_parts m_seed1 m_darkNow), (cAI g a_tape 900 d_tape), (cAI g a_letters 8 d_letters2_95), (cAI g a_fresh 311 d_fresh)] [] [0, 1, 2, 3] [] (m_opensX l g h0 sr_113 b_117 m_thrown a_tape m_taped m_size m_at2_91 m_end2_92 m_token2_98 m_whole2_99 m_nameSize2_96 m_fault2_94 m_place2_97 m_trouble a_letters m_failed2_93 m_hasHouse a_r a_fresh a_st a_undone a_kept m_undos m_images a_from a_begin a_motor a_change a_startFrame a_changeFrame a_lostAt a_blackAt a_slips a_leftArc a_died a_arcs m_bestSum m_nearest m_nearestTown a_there a_backAt a_sorted a_parts m_seed1 m_darkNow d_tape d_letters2_95 d_fresh ("join") (iv_w hv_119 (zle_e rfl) (zle_e rfl)) (iv_w hv_m_size (zle_e rfl) (zle_e rfl)) (iv_w iv_101 (zle_e rfl) (zle_e rfl)) (iv_w iv_103 (zle_e rfl) (zle_e rfl)) (iv_w iv_102 (zle_e rfl) (zle_e rfl)) hp_d_fresh hsr_113 hk_110) dX11_readLine_k4.1.1.2.1 mw543 mw544 mw545 mw5 mw546 rfl 11 rfl rfl 0 _ rfl yk_yX11_opens_2 rfl (Nat.le_of_ble_eq_true rfl) (Nat.le_of_ble_eq_true rfl) (Nat.le_of_ble_eq_true rfl) (Nat.le_of_ble_eq_true rfl) (Nat.le_of_ble_eq_true rfl) rfl rfl (vnd_e rfl) rfl (vnd_e rfl) (dsj_e rfl) ?_
                  intro r_135 w zq
                  refine exE9 zq ?_
                  clear zq
                  intro m_at2_126 m_end2_127 m_failed2_128 m_fault2_129 d_letters2_130 m_nameSize2_131 m_place2_132 m_token2_133 m_whole2_134 iv_136 zq
                  refine exA9 zq ?_
                  clear zq
                  intro iv_137 iv_138 iv_139 hq_140 hq_141 hq_142 hq_143 hk_144 hk_145 zq
                  subst zq
                  refine k_ws [(cO11_i1r1i10r1i2r5i2r12i3r4i2 h0 m_thrown a_tape m_taped m_size m_at2_126 m_end2_127 m_token2_133 m_whole2_134 m_nameSize2_131 m_fault2_129 m_place2_132 m_trouble a_letters m_failed2_128 m_hasHouse a_r a_fresh a_st a_undone a_kept m_undos m_images a_from a_begin a_motor a_change a_startFrame a_changeFrame a_lostAt a_blackAt a_slips a_leftArc a_died a_arcs m_bestSum m_nearest m_nearestTown a_there a_backAt a_sorted a_parts m_seed1 m_darkNow), (cAI g a_tape 900 d_tape), (cAI g a_letters 8 d_letters2_130), (cAI g a_fresh 311 d_fresh)] rfl ?_
                  refine k_if_eq 147 X dX11_readLine_k4.1.1.2.2 (jp_e rfl) (fun h_146 => ?_) (fun h_146 => ?_)
                  · skip
                    have iv_147 : IV r_135 0 0 := iv_meet iv_139 (iv_e h_146 iq_0_0_0) (zle_o rfl) (zle_o rfl)
                    refine k_aload_n X dX11_readLine_k4.1.2.2.2 0 rfl ?_
                    refine k_ldcS (tx := "weak") X dX11_readLine_k4.2.1.1.1 (by decide +kernel) (fun sr_148 hsr_148 => ?_)
                    refine k_aload_n X dX11_readLine_k4.2.1.1.2 0 rfl ?_
                    refine k_get (ci := 11) X inlX11 rfl 16 (nlt_e rfl) dX11_readLine_k4.2.1.2.1 mw171 0 rfl rfl ?_
                    refine k_bipush (v := 10) X dX11_readLine_k4.2.1.2.2 bi_10 ?_
                    refine k_iald X dX11_readLine_k4.2.2.1.1 3 rfl (by unfold vp_in; decide) ?_
                    refine k_nm (fun z_149 ez_149 => ?_)
                    have i_150 : z_149.toInt = (d_fresh 10).toInt := by rw [ez_149]; rfl
                    have iv_151 : IV z_149 0 6 := rb_10 ez_149 hp_d_fresh
                    refine k_bipush (v := 6) X dX11_readLine_k4.2.2.1.2 bi_6 ?_
                    refine k_join (fun b_152 => (((b_152 = 0 ∨ z_149.toInt < 6) ∧ IV b_152 0 1) ∧ (((((6 : Int32) ≤ z_149) ∧ (b_152 = 0)) ∨ ((¬ ((6 : Int32) ≤ z_149)) ∧ (b_152 = 1)))))) 167 [.ref sr_148, .ref h0] (fun hJ => ?_) (fun b_152 hb_153 => ?_)
                    · skip
                      refine k_ic_ge 166 X dX11_readLine_k4.2.2.2.1 (jp_e rfl) (fun h_156 => ?_) (fun h_156 => ?_)
                      · skip
                        have j_157 : 6 ≤ z_149.toInt := iv_le h_156
                        have iv_158 : IV z_149 6 6 := iv_leR (iv_le h_156) iq_6_6_6 iv_151 (zle_e rfl)
                        refine k_iconst (v := 0) X dX11_readLine_k5.1.1.1.2 ic_0 ?_
                        exact hJ 0 ⟨⟨by first | exact Or.inl rfl | exact Or.inr trivial | exact Or.inr (by omega), by decide⟩, (Or.inl ⟨h_156, rfl⟩)⟩
                      · skip
                        have j_159 : z_149.toInt < 6 := iv_nle h_156
                        have iv_160 : IV z_149 0 5 := iv_ltL (iv_nle h_156) iv_151 iq_6_6_6 (zle_e rfl)
                        refine k_iconst (v := 1) X dX11_readLine_k4.2.2.2.2 ic_1 ?_
                        refine k_goto 167 X dX11_readLine_k5.1.1.1.1 (jp_e rfl) ?_
                        exact hJ 1 ⟨⟨by first | exact Or.inl rfl | exact Or.inr trivial | exact Or.inr (by omega), by decide⟩, (Or.inr ⟨h_156, rfl⟩)⟩
                    · skip
                      obtain ⟨⟨hb_153, hv_154⟩, hj_155⟩ := hb_153
                      refine k_callVI (n := 2) (As := [.ref sr_148, .int b_152]) (st := []) X [(cO11_i1r1i10r1i2r5i2r12i3r4i2 h0 m_thrown a_tape m_taped m_size m_at2_126 m_end2_127 m_token2_133 m_whole2_134 m_nameSize2_131 m_fault2_129 m_place2_132 m_trouble a_letters m_failed2_128 m_hasHouse a_r a_fresh a_st a_undone a_kept m_undos m_images a_from a_begin a_motor a_change a_startFrame a_changeFrame a_lostAt a_blackAt a_slips a_leftArc a_died a_arcs m_bestSum m_nearest m_nearestTown a_there a_backAt a_sorted a_parts m_seed1 m_darkNow), (cAI g a_tape 900 d_tape), (cAI g a_letters 8 d_letters2_130), (cAI g a_fresh 311 d_fresh)] [] [0, 1, 2, 3] [] (m_opensX l g h0 sr_148 b_152 m_thrown a_tape m_taped m_size m_at2_126 m_end2_127 m_token2_133 m_whole2_134 m_nameSize2_131 m_fault2_129 m_place2_132 m_trouble a_letters m_failed2_128 m_hasHouse a_r a_fresh a_st a_undone a_kept m_undos m_images a_from a_begin a_motor a_change a_startFrame a_changeFrame a_lostAt a_blackAt a_slips a_leftArc a_died a_arcs m_bestSum m_nearest m_nearestTown a_there a_backAt a_sorted a_parts m_seed1 m_darkNow d_tape d_letters2_130 d_fresh ("weak") (iv_w hv_154 (zle_e rfl) (zle_e rfl)) (iv_w hv_m_size (zle_e rfl) (zle_e rfl)) (iv_w iv_136 (zle_e rfl) (zle_e rfl)) (iv_w iv_138 (zle_e rfl) (zle_e rfl)) (iv_w iv_137 (zle_e rfl) (zle_e rfl)) hp_d_fresh hsr_148 hk_145) dX11_readLine_k5.1.1.2.1 mw543 mw544 mw545 mw5 mw546 rfl 11 rfl rfl 0 _ rfl yk_yX11_opens_2 rfl (Nat.le_of_ble_eq_true rfl) (Nat.le_of_ble_eq_true rfl) (Nat.le_of_ble_eq_true rfl) (Nat.le_of_ble_eq_true rfl) (Nat.le_of_ble_eq_true rfl) rfl rfl (vnd_e rfl) rfl (vnd_e rfl) (dsj_e rfl) ?_
                      intro r_170 w zq
                      refine exE9 zq ?_
                      clear zq
                      intro m_at2_161 m_end2_162 m_failed2_163 m_fault2_164 d_letters2_165 m_nameSize2_166 m_place2_167 m_token2_168 m_whole2_169 iv_171 zq
                      refine exA9 zq ?_
                      clear zq
                      intro iv_172 iv_173 iv_174 hq_175 hq_176 hq_177 hq_178 hk_179 hk_180 zq
                      subst zq
                      refine k_ws [(cO11_i1r1i10r1i2r5i2r12i3r4i2 h0 m_thrown a_tape m_taped m_size m_at2_161 m_end2_162 m_token2_168 m_whole2_169 m_nameSize2_166 m_fault2_164 m_place2_167 m_trouble a_letters m_failed2_163 m_hasHouse a_r a_fresh a_st a_undone a_kept m_undos m_images a_from a_begin a_motor a_change a_startFrame a_changeFrame a_lostAt a_blackAt a_slips a_leftArc a_died a_arcs m_bestSum m_nearest m_nearestTown a_there a_backAt a_sorted a_parts m_seed1 m_darkNow), (cAI g a_tape 900 d_tape), (cAI g a_letters 8 d_letters2_165), (cAI g a_fresh 311 d_fresh)] rfl ?_
                      refine k_if_eq 180 X dX11_readLine_k5.1.1.2.2 (jp_e rfl) (fun h_181 => ?_) (fun h_181 => ?_)
                      · skip
                        have iv_182 : IV r_170 0 0 := iv_meet iv_174 (iv_e h_181 iq_0_0_0) (zle_o rfl) (zle_o rfl)
                        refine k_aload_n X dX11_readLine_k5.1.2.2.2 0 rfl ?_
                        refine k_ldcS (tx := "man") X dX11_readLine_k5.2.1.1.1 (by decide +kernel) (fun sr_183 hsr_183 => ?_)
                        refine k_aload_n X dX11_readLine_k5.2.1.1.2 0 rfl ?_
                        refine k_get (ci := 11) X inlX11 rfl 16 (nlt_e rfl) dX11_readLine_k5.2.1.2.1 mw171 0 rfl rfl ?_
                        refine k_bipush (v := 11) X dX11_readLine_k5.2.1.2.2 bi_11 ?_
                        refine k_iald X dX11_readLine_k5.2.2.1.1 3 rfl (by unfold vp_in; decide) ?_
                        refine k_nm (fun z_184 ez_184 => ?_)
                        have i_185 : z_184.toInt = (d_fresh 11).toInt := by rw [ez_184]; rfl
                        have iv_186 : IV z_184 0 4 := rb_11 ez_184 hp_d_fresh
                        refine k_iconst (v := 4) X dX11_readLine_k5.2.2.1.2 ic_4 ?_
                        refine k_join (fun b_187 => (((b_187 = 0 ∨ z_184.toInt < 4) ∧ IV b_187 0 1) ∧ (((((4 : Int32) ≤ z_184) ∧ (b_187 = 0)) ∨ ((¬ ((4 : Int32) ≤ z_184)) ∧ (b_187 = 1)))))) 199 [.ref sr_183, .ref h0] (fun hJ => ?_) (fun b_187 hb_188 => ?_)
                        · skip
                          refine k_ic_ge 198 X dX11_readLine_k5.2.2.2.1 (jp_e rfl) (fun h_191 => ?_) (fun h_191 => ?_)
                          · skip
                            have j_192 : 4 ≤ z_184.toInt := iv_le h_191
                            have iv_193 : IV z_184 4 4 := iv_leR (iv_le h_191) iq_4_4_4 iv_186 (zle_e rfl)
                            refine k_iconst (v := 0) X dX11_readLine_k6.1.1.1.2 ic_0 ?_
                            exact hJ 0 ⟨⟨by first | exact Or.inl rfl | exact Or.inr trivial | exact Or.inr (by omega), by decide⟩, (Or.inl ⟨h_191, rfl⟩)⟩
                          · skip
                            have j_194 : z_184.toInt < 4 := iv_nle h_191
                            have iv_195 : IV z_184 0 3 := iv_ltL (iv_nle h_191) iv_186 iq_4_4_4 (zle_e rfl)
                            refine k_iconst (v := 1) X dX11_readLine_k5.2.2.2.2 ic_1 ?_
                            refine k_goto 199 X dX11_readLine_k6.1.1.1.1 (jp_e rfl) ?_
                            exact hJ 1 ⟨⟨by first | exact Or.inl rfl | exact Or.inr trivial | exact Or.inr (by omega), by decide⟩, (Or.inr ⟨h_191, rfl⟩)⟩
                        · skip
                          obtain ⟨⟨hb_188, hv_189⟩, hj_190⟩ := hb_188
                          refine k_callVI (n := 2) (As := [.ref sr_183, .int b_187]) (st := []) X [(cO11_i1r1i10r1i2r5i2r12i3r4i2 h0 m_thrown a_tape m_taped m_size m_at2_161 m_end2_162 m_token2_168 m_whole2_169 m_nameSize2_166 m_fault2_164 m_place2_167 m_trouble a_letters m_failed2_163 m_hasHouse a_r a_fresh a_st a_undone a_kept m_undos m_images a_from a_begin a_motor a_change a_startFrame a_changeFrame a_lostAt a_blackAt a_slips a_leftArc a_died a_arcs m_bestSum m_nearest m_nearestTown a_there a_backAt a_sorted a_parts m_seed1 m_darkNow), (cAI g a_tape 900 d_tape), (cAI g a_letters 8 d_letters2_165), (cAI g a_fresh 311 d_fresh)] [] [0, 1, 2, 3] [] (m_opensX l g h0 sr_183 b_187 m_thrown a_tape m_taped m_size m_at2_161 m_end2_162 m_token2_168 m_whole2_169 m_nameSize2_166 m_fault2_164 m_place2_167 m_trouble a_letters m_failed2_163 m_hasHouse a_r a_fresh a_st a_undone a_kept m_undos m_images a_from a_begin a_motor a_change a_startFrame a_changeFrame a_lostAt a_blackAt a_slips a_leftArc a_died a_arcs m_bestSum m_nearest m_nearestTown a_there a_backAt a_sorted a_parts m_seed1 m_darkNow d_tape d_letters2_165 d_fresh ("man") (iv_w hv_189 (zle_e rfl) (zle_e rfl)) (iv_w hv_m_size (zle_e rfl) (zle_e rfl)) (iv_w iv_171 (zle_e rfl) (zle_e rfl)) (iv_w iv_173 (zle_e rfl) (zle_e rfl)) (iv_w iv_172 (zle_e rfl) (zle_e rfl)) hp_d_fresh hsr_183 hk_180) dX11_readLine_k6.1.1.2.1 mw543 mw544 mw545 mw5 mw546 rfl 11 rfl rfl 0 _ rfl yk_yX11_opens_2 rfl (Nat.le_of_ble_eq_true rfl) (Nat.le_of_ble_eq_true rfl) (Nat.le_of_ble_eq_true rfl) (Nat.le_of_ble_eq_true rfl) (Nat.le_of_ble_eq_true rfl) rfl rfl (vnd_e rfl) rfl (vnd_e rfl) (dsj_e rfl) ?_
                          intro r_205 w zq
                          refine exE9 zq ?_
                          clear zq
                          intro m_at2_196 m_end2_197 m_failed2_198 m_fault2_199 d_letters2_200 m_nameSize2_201 m_place2_202 m_token2_203 m_whole2_204 iv_206 zq
                          refine exA9 zq ?_
                          clear zq
                          intro iv_207 iv_208 iv_209 hq_210 hq_211 hq_212 hq_213 hk_214 hk_215 zq
                          subst zq
                          refine k_ws [(cO11_i1r1i10r1i2r5i2r12i3r4i2 h0 m_thrown a_tape m_taped m_size m_at2_196 m_end2_197 m_token2_203 m_whole2_204 m_nameSize2_201 m_fault2_199 m_place2_202 m_trouble a_letters m_failed2_198 m_hasHouse a_r a_fresh a_st a_undone a_kept m_undos m_images a_from a_begin a_motor a_change a_startFrame a_changeFrame a_lostAt a_blackAt a_slips a_leftArc a_died a_arcs m_bestSum m_nearest m_nearestTown a_there a_backAt a_sorted a_parts m_seed1 m_darkNow), (cAI g a_tape 900 d_tape), (cAI g a_letters 8 d_letters2_200), (cAI g a_fresh 311 d_fresh)] rfl ?_
                          refine k_if_eq 212 X dX11_readLine_k6.1.1.2.2 (jp_e rfl) (fun h_216 => ?_) (fun h_216 => ?_)
                          · skip
                            have iv_217 : IV r_205 0 0 := iv_meet iv_209 (iv_e h_216 iq_0_0_0) (zle_o rfl) (zle_o rfl)
                            refine k_aload_n X dX11_readLine_k6.1.2.2.2 0 rfl ?_
                            refine k_ldcS (tx := "shows") X dX11_readLine_k6.2.1.1.1 (by decide +kernel) (fun sr_218 hsr_218 => ?_)
                            refine k_aload_n X dX11_readLine_k6.2.1.1.2 0 rfl ?_
                            refine k_get (ci := 11) X inlX11 rfl 16 (nlt_e rfl) dX11_readLine_k6.2.1.2.1 mw171 0 rfl rfl ?_
                            refine k_bipush (v := 12) X dX11_readLine_k6.2.1.2.2 bi_12 ?_
                            refine k_iald X dX11_readLine_k6.2.2.1.1 3 rfl (by unfold vp_in; decide) ?_
                            refine k_nm (fun z_219 ez_219 => ?_)
                            have i_220 : z_219.toInt = (d_fresh 12).toInt := by rw [ez_219]; rfl
                            have iv_221 : IV z_219 0 8 := rb_12 ez_219 hp_d_fresh
                            refine k_join (fun b_222 => (((b_222 = 0 ∨ True) ∧ IV b_222 0 1) ∧ ((((z_219 ≤ (0 : Int32)) ∧ (b_222 = 0)) ∨ ((¬ (z_219 ≤ (0 : Int32))) ∧ (b_222 = 1)))))) 230 [.ref sr_218, .ref h0] (fun hJ => ?_) (fun b_222 hb_223 => ?_)
                            · skip
                              refine k_if_le 229 X dX11_readLine_k6.2.2.1.2 (jp_e rfl) (fun h_226 => ?_) (fun h_226 => ?_)
                              · skip
                                have j_227 : z_219.toInt ≤ 0 := iv_le h_226
                                have iv_228 : IV z_219 0 0 := iv_leL (iv_le h_226) iv_221 iq_0_0_0 (zle_e rfl)
                                refine k_iconst (v := 0) X dX11_readLine_k7.1.1.1.1 ic_0 ?_
                                exact hJ 0 ⟨⟨by first | exact Or.inl rfl | exact Or.inr trivial | exact Or.inr (by omega), by decide⟩, (Or.inl ⟨h_226, rfl⟩)⟩
                              · skip
                                have j_229 : 0 < z_219.toInt := iv_nle h_226
                                have iv_230 : IV z_219 1 8 := iv_ltR (iv_nle h_226) iq_0_0_0 iv_221 (zle_e rfl)
                                refine k_iconst (v := 1) X dX11_readLine_k6.2.2.2.1 ic_1 ?_
                                refine k_goto 230 X dX11_readLine_k6.2.2.2.2 (jp_e rfl) ?_
                                exact hJ 1 ⟨⟨by first | exact Or.inl rfl | exact Or.inr trivial | exact Or.inr (by omega), by decide⟩, (Or.inr ⟨h_226, rfl⟩)⟩
                            · skip
                              obtain ⟨⟨hb_223, hv_224⟩, hj_225⟩ := hb_223
                              refine k_callVI (n := 2) (As := [.ref sr_218, .int b_222]) (st := []) X [(cO11_i1r1i10r1i2r5i2r12i3r4i2 h0 m_thrown a_tape m_taped m_size m_at2_196 m_end2_197 m_token2_203 m_whole2_204 m_nameSize2_201 m_fault2_199 m_place2_202 m_trouble a_letters m_failed2_198 m_hasHouse a_r a_fresh a_st a_undone a_kept m_undos m_images a_from a_begin a_motor a_change a_startFrame a_changeFrame a_lostAt a_blackAt a_slips a_leftArc a_died a_arcs m_bestSum m_nearest m_nearestTown a_there a_backAt a_sorted a_parts m_seed1 m_darkNow), (cAI g a_tape 900 d_tape), (cAI g a_letters 8 d_letters2_200), (cAI g a_fresh 311 d_fresh)] [] [0, 1, 2, 3] [] (m_opensOnceX l g h0 sr_218 b_222 m_thrown a_tape m_taped m_size m_at2_196 m_end2_197 m_token2_203 m_whole2_204 m_nameSize2_201 m_fault2_199 m_place2_202 m_trouble a_letters m_failed2_198 m_hasHouse a_r a_fresh a_st a_undone a_kept m_undos m_images a_from a_begin a_motor a_change a_startFrame a_changeFrame a_lostAt a_blackAt a_slips a_leftArc a_died a_arcs m_bestSum m_nearest m_nearestTown a_there a_backAt a_sorted a_parts m_seed1 m_darkNow d_tape d_letters2_200 d_fresh ("shows") (iv_w hv_224 (zle_e rfl) (zle_e rfl)) (iv_w hv_m_size (zle_e rfl) (zle_e rfl)) (iv_w iv_206 (zle_e rfl) (zle_e rfl)) (iv_w iv_208 (zle_e rfl) (zle_e rfl)) (iv_w iv_207 (zle_e rfl) (zle_e rfl)) hp_d_fresh hsr_218 hk_215) dX11_readLine_k7.1.1.1.2 mw595 mw596 mw597 mw5 mw598 rfl 11 rfl rfl 0 _ rfl yk_yX11_opensOnce_2 rfl (Nat.le_of_ble_eq_true rfl) (Nat.le_of_ble_eq_true rfl) (Nat.le_of_ble_eq_true rfl) (Nat.le_of_ble_eq_true rfl) (Nat.le_of_ble_eq_true rfl) rfl rfl (vnd_e rfl) rfl (vnd_e rfl) (dsj_e rfl) ?_
                              intro r_240 w zq
                              refine exE9 zq ?_
                              clear zq
                              intro m_at2_231 m_end2_232 m_failed2_233 m_fault2_234 d_letters2_235 m_nameSize2_236 m_place2_237 m_token2_238 m_whole2_239 iv_241 zq
                              refine exA8 zq ?_
                              clear zq
                              intro iv_242 iv_243 iv_244 hq_245 hq_246 hq_247 hk_248 hk_249 zq
                              subst zq
                              refine k_ws [(cO11_i1r1i10r1i2r5i2r12i3r4i2 h0 m_thrown a_tape m_taped m_size m_at2_231 m_end2_232 m_token2_238 m_whole2_239 m_nameSize2_236 m_fault2_234 m_place2_237 m_trouble a_letters m_failed2_233 m_hasHouse a_r a_fresh a_st a_undone a_kept m_undos m_images a_from a_begin a_motor a_change a_startFrame a_changeFrame a_lostAt a_blackAt a_slips a_leftArc a_died a_arcs m_bestSum m_nearest m_nearestTown a_there a_backAt a_sorted a_parts m_seed1 m_darkNow), (cAI g a_tape 900 d_tape), (cAI g a_letters 8 d_letters2_235), (cAI g a_fresh 311 d_fresh)] rfl ?_
                              refine k_if_eq 243 X dX11_readLine_k7.1.1.2.1 (jp_e rfl) (fun h_250 => ?_) (fun h_250 => ?_)
                              · skip
                                have iv_251 : IV r_240 0 0 := iv_meet iv_244 (iv_e h_250 iq_0_0_0) (zle_o rfl) (zle_o rfl)
                                refine k_aload_n X dX11_readLine_k7.1.2.2.1 0 rfl ?_
                                refine k_ldcS (tx := "boys") X dX11_readLine_k7.1.2.2.2 (by decide +kernel) (fun sr_252 hsr_252 => ?_)
                                refine k_aload_n X dX11_readLine_k7.2.1.1.1 0 rfl ?_
                                refine k_get (ci := 11) X inlX11 rfl 16 (nlt_e rfl) dX11_readLine_k7.2.1.1.2 mw171 0 rfl rfl ?_
                                refine k_sipush (v := 134) X dX11_readLine_k7.2.1.2.1 si_134 ?_
                                refine k_iald X dX11_readLine_k7.2.1.2.2 3 rfl (by unfold vp_in; decide) ?_
                                refine k_nm (fun z_253 ez_253 => ?_)
                                have i_254 : z_253.toInt = (d_fresh 134).toInt := by rw [ez_253]; rfl
                                have iv_255 : IV z_253 0 4 := rb_134 ez_253 hp_d_fresh
                                refine k_join (fun b_256 => (((b_256 = 0 ∨ True) ∧ IV b_256 0 1) ∧ ((((z_253 ≤ (0 : Int32)) ∧ (b_256 = 0)) ∨ ((¬ (z_253 ≤ (0 : Int32))) ∧ (b_256 = 1)))))) 262 [.ref sr_252, .ref h0] (fun hJ => ?_) (fun b_256 hb_257 => ?_)
                                · skip
                                  refine k_if_le 261 X dX11_readLine_k7.2.2.1.1 (jp_e rfl) (fun h_260 => ?_) (fun h_260 => ?_)
                                  · skip
                                    have j_261 : z_253.toInt ≤ 0 := iv_le h_260
                                    have iv_262 : IV z_253 0 0 := iv_leL (iv_le h_260) iv_255 iq_0_0_0 (zle_e rfl)
                                    refine k_iconst (v := 0) X dX11_readLine_k7.2.2.2.2 ic_0 ?_
                                    exact hJ 0 ⟨⟨by first | exact Or.inl rfl | exact Or.inr trivial | exact Or.inr (by omega), by decide⟩, (Or.inl ⟨h_260, rfl⟩)⟩
                                  · skip
                                    have j_263 : 0 < z_253.toInt := iv_nle h_260
                                    have iv_264 : IV z_253 1 4 := iv_ltR (iv_nle h_260) iq_0_0_0 iv_255 (zle_e rfl)
                                    refine k_iconst (v := 1) X dX11_readLine_k7.2.2.1.2 ic_1 ?_
                                    refine k_goto 262 X dX11_readLine_k7.2.2.2.1 (jp_e rfl) ?_
                                    exact hJ 1 ⟨⟨by first | exact Or.inl rfl | exact Or.inr trivial | exact Or.inr (by omega), by decide⟩, (Or.inr ⟨h_260, rfl⟩)⟩
                                · skip
                                  obtain ⟨⟨hb_257, hv_258⟩, hj_259⟩ := hb_257
                                  refine k_callVI (n := 2) (As := [.ref sr_252, .int b_256]) (st := []) X [(cO11_i1r1i10r1i2r5i2r12i3r4i2 h0 m_thrown a_tape m_taped m_size m_at2_231 m_end2_232 m_token2_238 m_whole2_239 m_nameSize2_236 m_fault2_234 m_place2_237 m_trouble a_letters m_failed2_233 m_hasHouse a_r a_fresh a_st a_undone a_kept m_undos m_images a_from a_begin a_motor a_change a_startFrame a_changeFrame a_lostAt a_blackAt a_slips a_leftArc a_died a_arcs m_bestSum m_nearest m_nearestTown a_there a_backAt a_sorted a_parts m_seed1 m_darkNow), (cAI g a_tape 900 d_tape), (cAI g a_letters 8 d_letters2_235), (cAI g a_fresh 311 d_fresh)] [] [0, 1, 2, 3] [] (m_opensOnceX l g h0 sr_252 b_256 m_thrown a_tape m_taped m_size m_at2_231 m_end2_232 m_token2_238 m_whole2_239 m_nameSize2_236 m_fault2_234 m_place2_237 m_trouble a_letters m_failed2_233 m_hasHouse a_r a_fresh a_st a_undone a_kept m_undos m_images a_from a_begin a_motor a_change a_startFrame a_changeFrame a_lostAt a_blackAt a_slips a_leftArc a_died a_arcs m_bestSum m_nearest m_nearestTown a_there a_backAt a_sorted a_parts m_seed1 m_darkNow d_tape d_letters2_235 d_fresh ("boys") (iv_w hv_258 (zle_e rfl) (zle_e rfl)) (iv_w hv_m_size (zle_e rfl) (zle_e rfl)) (iv_w iv_241 (zle_e rfl) (zle_e rfl)) (iv_w iv_243 (zle_e rfl) (zle_e rfl)) (iv_w iv_242 (zle_e rfl) (zle_e rfl)) hp_d_fresh hsr_252 hk_249) dX11_readLine_k8.1.1.1.1 mw595 mw596 mw597 mw5 mw598 rfl 11 rfl rfl 0 _ rfl yk_yX11_opensOnce_2 rfl (Nat.le_of_ble_eq_true rfl) (Nat.le_of_ble_eq_true rfl) (Nat.le_of_ble_eq_true rfl) (Nat.le_of_ble_eq_true rfl) (Nat.le_of_ble_eq_true rfl) rfl rfl (vnd_e rfl) rfl (vnd_e rfl) (dsj_e rfl) ?_
                                  intro r_274 w zq
                                  refine exE9 zq ?_
                                  clear zq
                                  intro m_at2_265 m_end2_266 m_failed2_267 m_fault2_268 d_letters2_269 m_nameSize2_270 m_place2_271 m_token2_272 m_whole2_273 iv_275 zq
                                  refine exA8 zq ?_
                                  clear zq
                                  intro iv_276 iv_277 iv_278 hq_279 hq_280 hq_281 hk_282 hk_283 zq
                                  subst zq
                                  refine k_ws [(cO11_i1r1i10r1i2r5i2r12i3r4i2 h0 m_thrown a_tape m_taped m_size m_at2_265 m_end2_266 m_token2_272 m_whole2_273 m_nameSize2_270 m_fault2_268 m_place2_271 m_trouble a_letters m_failed2_267 m_hasHouse a_r a_fresh a_st a_undone a_kept m_undos m_images a_from a_begin a_motor a_change a_startFrame a_changeFrame a_lostAt a_blackAt a_slips a_leftArc a_died a_arcs m_bestSum m_nearest m_nearestTown a_there a_backAt a_sorted a_parts m_seed1 m_darkNow), (cAI g a_tape 900 d_tape), (cAI g a_letters 8 d_letters2_269), (cAI g a_fresh 311 d_fresh)] rfl ?_
                                  refine k_if_eq 275 X dX11_readLine_k8.1.1.1.2 (jp_e rfl) (fun h_284 => ?_) (fun h_284 => ?_)
                                  · skip
                                    have iv_285 : IV r_274 0 0 := iv_meet iv_278 (iv_e h_284 iq_0_0_0) (zle_o rfl) (zle_o rfl)
                                    refine k_aload_n X dX11_readLine_k8.1.2.1.2 0 rfl ?_
                                    refine k_ldcS (tx := "seen") X dX11_readLine_k8.1.2.2.1 (by decide +kernel) (fun sr_286 hsr_286 => ?_)
                                    refine k_callVI (n := 1) (As := [.ref sr_286]) (st := []) X [(cO11_i1r1i10r1i2r5i2r12i3r4i2 h0 m_thrown a_tape m_taped m_size m_at2_265 m_end2_266 m_token2_272 m_whole2_273 m_nameSize2_270 m_fault2_268 m_place2_271 m_trouble a_letters m_failed2_267 m_hasHouse a_r a_fresh a_st a_undone a_kept m_undos m_images a_from a_begin a_motor a_change a_startFrame a_changeFrame a_lostAt a_blackAt a_slips a_leftArc a_died a_arcs m_bestSum m_nearest m_nearestTown a_there a_backAt a_sorted a_parts m_seed1 m_darkNow), (cAI g a_letters 8 d_letters2_269)] [(cAI g a_tape 900 d_tape), (cAI g a_fresh 311 d_fresh)] [0, 2] [1, 3] (m_isWordX l g h0 sr_286 m_thrown a_tape m_taped m_size m_at2_265 m_end2_266 m_token2_272 m_whole2_273 m_nameSize2_270 m_fault2_268 m_place2_271 m_trouble a_letters m_failed2_267 m_hasHouse a_r a_fresh a_st a_undone a_kept m_undos m_images a_from a_begin a_motor a_change a_startFrame a_changeFrame a_lostAt a_blackAt a_slips a_leftArc a_died a_arcs m_bestSum m_nearest m_nearestTown a_there a_backAt a_sorted a_parts m_seed1 m_darkNow d_letters2_269 ("seen") (iv_w iv_277 (zle_e rfl) (zle_e rfl)) (iv_w iv_276 (zle_e rfl) (zle_e rfl)) hsr_286 hk_283) dX11_readLine_k8.1.2.2.2 mw509 mw510 mw511 mw5 mw512 rfl 11 rfl rfl 0 _ rfl yk_yX11_isWord_1 rfl (Nat.le_of_ble_eq_true rfl) (Nat.le_of_ble_eq_true rfl) (Nat.le_of_ble_eq_true rfl) (Nat.le_of_ble_eq_true rfl) (Nat.le_of_ble_eq_true rfl) rfl rfl (vnd_e rfl) rfl (vnd_e rfl) (dsj_e rfl) ?_
                                    rintro r_287 w ⟨iv_288, hq_289, hk_290, rfl⟩
                                    refine k_ws [(cAI g a_tape 900 d_tape), (cAI g a_fresh 311 d_fresh), (cO11_i1r1i10r1i2r5i2r12i3r4i2 h0 m_thrown a_tape m_taped m_size m_at2_265 m_end2_266 m_token2_272 m_whole2_273 m_nameSize2_270 m_fault2_268 m_place2_271 m_trouble a_letters m_failed2_267 m_hasHouse a_r a_fresh a_st a_undone a_kept m_undos m_images a_from a_begin a_motor a_change a_startFrame a_changeFrame a_lostAt a_blackAt a_slips a_leftArc a_died a_arcs m_bestSum m_nearest m_nearestTown a_there a_backAt a_sorted a_parts m_seed1 m_darkNow), (cAI g a_letters 8 d_letters2_269)] rfl ?_
                                    refine k_if_eq 291 X dX11_readLine_k8.2.1.1.1 (jp_e rfl) (fun h_291 => ?_) (fun h_291 => ?_)
                                    · skip
                                      have iv_292 : IV r_287 0 0 := iv_meet iv_288 (iv_e h_291 iq_0_0_0) (zle_o rfl) (zle_o rfl)
                                      refine k_aload_n X dX11_readLine_k8.2.2.1.1 0 rfl ?_
                                      refine k_ldcS (tx := "scratch") X dX11_readLine_k8.2.2.1.2 (by decide +kernel) (fun sr_293 hsr_293 => ?_)
                                      refine k_aload_n X dX11_readLine_k8.2.2.2.1 0 rfl ?_
                                      refine k_get (ci := 11) X inlX11 rfl 16 (nlt_e rfl) dX11_readLine_k8.2.2.2.2 mw171 2 rfl rfl ?_
                                      refine k_bipush (v := 14) X dX11_readLine_k9.1.1.1.1 bi_14 ?_
                                      refine k_iald X dX11_readLine_k9.1.1.1.2 1 rfl (by unfold vp_in; decide) ?_
                                      refine k_nm (fun z_294 ez_294 => ?_)
                                      have i_295 : z_294.toInt = (d_fresh 14).toInt := by rw [ez_294]; rfl
                                      have iv_296 : IV z_294 0 6 := rb_14 ez_294 hp_d_fresh
                                      refine k_bipush (v := 6) X dX11_readLine_k9.1.1.2.1 bi_6 ?_
                                      refine k_join (fun b_297 => (((b_297 = 0 ∨ z_294.toInt < 6) ∧ IV b_297 0 1) ∧ (((((6 : Int32) ≤ z_294) ∧ (b_297 = 0)) ∨ ((¬ ((6 : Int32) ≤ z_294)) ∧ (b_297 = 1)))))) 311 [.ref sr_293, .ref h0] (fun hJ => ?_) (fun b_297 hb_298 => ?_)
                                      · skip
                                        refine k_ic_ge 310 X dX11_readLine_k9.1.1.2.2 (jp_e rfl) (fun h_301 => ?_) (fun h_301 => ?_)
                                        · skip
                                          have j_302 : 6 ≤ z_294.toInt := iv_le h_301
                                          have iv_303 : IV z_294 6 6 := iv_leR (iv_le h_301) iq_6_6_6 iv_296 (zle_e rfl)
                                          refine k_iconst (v := 0) X dX11_readLine_k9.1.2.2.1 ic_0 ?_
                                          exact hJ 0 ⟨⟨by first | exact Or.inl rfl | exact Or.inr trivial | exact Or.inr (by omega), by decide⟩, (Or.inl ⟨h_301, rfl⟩)⟩
                                        · skip
                                          have j_304 : z_294.toInt < 6 := iv_nle h_301
                                          have iv_305 : IV z_294 0 5 := iv_ltL (iv_nle h_301) iv_296 iq_6_6_6 (zle_e rfl)
                                          refine k_iconst (v := 1) X dX11_readLine_k9.1.2.1.1 ic_1 ?_
                                          refine k_goto 311 X dX11_readLine_k9.1.2.1.2 (jp_e rfl) ?_
                                          exact hJ 1 ⟨⟨by first | exact Or.inl rfl | exact Or.inr trivial | exact Or.inr (by omega), by decide⟩, (Or.inr ⟨h_301, rfl⟩)⟩
                                      · skip
                                        obtain ⟨⟨hb_298, hv_299⟩, hj_300⟩ := hb_298
                                        refine k_callVI (n := 2) (As := [.ref sr_293, .int b_297]) (st := []) X [(cO11_i1r1i10r1i2r5i2r12i3r4i2 h0 m_thrown a_tape m_taped m_size m_at2_265 m_end2_266 m_token2_272 m_whole2_273 m_nameSize2_270 m_fault2_268 m_place2_271 m_trouble a_letters m_failed2_267 m_hasHouse a_r a_fresh a_st a_undone a_kept m_undos m_images a_from a_begin a_motor a_change a_startFrame a_changeFrame a_lostAt a_blackAt a_slips a_leftArc a_died a_arcs m_bestSum m_nearest m_nearestTown a_there a_backAt a_sorted a_parts m_seed1 m_darkNow), (cAI g a_tape 900 d_tape), (cAI g a_letters 8 d_letters2_269), (cAI g a_fresh 311 d_fresh)] [] [2, 0, 3, 1] [] (m_opensX l g h0 sr_293 b_297 m_thrown a_tape m_taped m_size m_at2_265 m_end2_266 m_token2_272 m_whole2_273 m_nameSize2_270 m_fault2_268 m_place2_271 m_trouble a_letters m_failed2_267 m_hasHouse a_r a_fresh a_st a_undone a_kept m_undos m_images a_from a_begin a_motor a_change a_startFrame a_changeFrame a_lostAt a_blackAt a_slips a_leftArc a_died a_arcs m_bestSum m_nearest m_nearestTown a_there a_backAt a_sorted a_parts m_seed1 m_darkNow d_tape d_letters2_269 d_fresh ("scratch") (iv_w hv_299 (zle_e rfl) (zle_e rfl)) (iv_w hv_m_size (zle_e rfl) (zle_e rfl)) (iv_w iv_275 (zle_e rfl) (zle_e rfl)) (iv_w iv_277 (zle_e rfl) (zle_e rfl)) (iv_w iv_276 (zle_e rfl) (zle_e rfl)) hp_d_fresh hsr_293 hk_283) dX11_readLine_k9.1.2.2.2 mw543 mw544 mw545 mw5 mw546 rfl 11 rfl rfl 0 _ rfl yk_yX11_opens_2 rfl (Nat.le_of_ble_eq_true rfl) (Nat.le_of_ble_eq_true rfl) (Nat.le_of_ble_eq_true rfl) (Nat.le_of_ble_eq_true rfl) (Nat.le_of_ble_eq_true rfl) rfl rfl (vnd_e rfl) rfl (vnd_e rfl) (dsj_e rfl) ?_
                                        intro r_315 w zq
                                        refine exE9 zq ?_
                                        clear zq
                                        intro m_at2_306 m_end2_307 m_failed2_308 m_fault2_309 d_letters2_310 m_nameSize2_311 m_place2_312 m_token2_313 m_whole2_314 iv_316 zq
                                        refine exA9 zq ?_
                                        clear zq
                                        intro iv_317 iv_318 iv_319 hq_320 hq_321 hq_322 hq_323 hk_324 hk_325 zq
                                        subst zq
                                        refine k_ws [(cO11_i1r1i10r1i2r5i2r12i3r4i2 h0 m_thrown a_tape m_taped m_size m_at2_306 m_end2_307 m_token2_313 m_whole2_314 m_nameSize2_311 m_fault2_309 m_place2_312 m_trouble a_letters m_failed2_308 m_hasHouse a_r a_fresh a_st a_undone a_kept m_undos m_images a_from a_begin a_motor a_change a_startFrame a_changeFrame a_lostAt a_blackAt a_slips a_leftArc a_died a_arcs m_bestSum m_nearest m_nearestTown a_there a_backAt a_sorted a_parts m_seed1 m_darkNow), (cAI g a_tape 900 d_tape), (cAI g a_letters 8 d_letters2_310), (cAI g a_fresh 311 d_fresh)] rfl ?_
                                        refine k_if_eq 324 X dX11_readLine_k9.2.1.1.1 (jp_e rfl) (fun h_326 => ?_) (fun h_326 => ?_)
                                        · skip
                                          have iv_327 : IV r_315 0 0 := iv_meet iv_319 (iv_e h_326 iq_0_0_0) (zle_o rfl) (zle_o rfl)
                                          refine k_aload_n X dX11_readLine_k9.2.2.1.1 0 rfl ?_
                                          refine k_iconst (v := 1) X dX11_readLine_k9.2.2.1.2 ic_1 ?_
                                          refine k_aload_n X dX11_readLine_k9.2.2.2.1 0 rfl ?_
                                          refine k_get (ci := 11) X inlX11 rfl 4 (nlt_e rfl) dX11_readLine_k9.2.2.2.2 mw473 0 rfl rfl ?_
                                          refine k_callVV (n := 2) (As := [.int 1, .int m_at2_306]) (st := []) X [(cO11_i1r1i10r1i2r5i2r12i3r4i2 h0 m_thrown a_tape m_taped m_size m_at2_306 m_end2_307 m_token2_313 m_whole2_314 m_nameSize2_311 m_fault2_309 m_place2_312 m_trouble a_letters m_failed2_308 m_hasHouse a_r a_fresh a_st a_undone a_kept m_undos m_images a_from a_begin a_motor a_change a_startFrame a_changeFrame a_lostAt a_blackAt a_slips a_leftArc a_died a_arcs m_bestSum m_nearest m_nearestTown a_there a_backAt a_sorted a_parts m_seed1 m_darkNow)] [(cAI g a_tape 900 d_tape), (cAI g a_letters 8 d_letters2_310), (cAI g a_fresh 311 d_fresh)] [0] [1, 2, 3] (m_badX l g h0 1 m_at2_306 m_thrown a_tape m_taped m_size m_at2_306 m_end2_307 m_token2_313 m_whole2_314 m_nameSize2_311 m_fault2_309 m_place2_312 m_trouble a_letters m_failed2_308 m_hasHouse a_r a_fresh a_st a_undone a_kept m_undos m_images a_from a_begin a_motor a_change a_startFrame a_changeFrame a_lostAt a_blackAt a_slips a_leftArc a_died a_arcs m_bestSum m_nearest m_nearestTown a_there a_backAt a_sorted a_parts m_seed1 m_darkNow (iv_w iv_317 (zle_e rfl) (zle_e rfl))) dX11_readLine_k10.1 mw519 mw520 mw521 mw5 mw522 rfl 11 rfl rfl 0 _ rfl yk_yX11_bad_2 rfl (Nat.le_of_ble_eq_true rfl) (Nat.le_of_ble_eq_true rfl) (Nat.le_of_ble_eq_true rfl) (Nat.le_of_ble_eq_true rfl) (Nat.le_of_ble_eq_true rfl) rfl rfl (vnd_e rfl) rfl (vnd_e rfl) (dsj_e rfl) ?_
                                          rintro w ⟨m_failed2_328, m_fault2_329, m_place2_330, iv_332, hq_333, rfl⟩
                                          refine k_ws [(cAI g a_tape 900 d_tape), (cAI g a_letters 8 d_letters2_310), (cAI g a_fresh 311 d_fresh), (cO11_i1r1i10r1i2r5i2r12i3r4i2 h0 m_thrown a_tape m_taped m_size m_at2_306 m_end2_307 m_token2_313 m_whole2_314 m_nameSize2_311 m_fault2_329 m_place2_330 m_trouble a_letters m_failed2_328 m_hasHouse a_r a_fresh a_st a_undone a_kept m_undos m_images a_from a_begin a_motor a_change a_startFrame a_changeFrame a_lostAt a_blackAt a_slips a_leftArc a_died a_arcs m_bestSum m_nearest m_nearestTown a_there a_backAt a_sorted a_parts m_seed1 m_darkNow)] rfl ?_
                                          exact k_vret X hr dX11_readLine_k10.2 (Nat.le_of_ble_eq_true rfl) (Nat.le_of_ble_eq_true rfl) [3, 0, 1, 2] (vnd_e rfl) rfl rfl ⟨m_at2_306, m_end2_307, m_failed2_328, m_fault2_329, d_fresh, d_letters2_310, m_nameSize2_311, m_place2_330, m_token2_313, m_whole2_314, (iv_w iv_316 (zle_e rfl) (zle_e rfl)), (iv_w iv_332 (zle_e rfl) (zle_e rfl)), (iv_w iv_318 (zle_e rfl) (zle_e rfl)), hp_d_fresh, (by omega), (by omega), hr_0, ⟨r_2, hq_4, (Or.inl ⟨h_6, ⟨z_9, ez_9, ⟨b_12, hj_15, ⟨m_at2_21, m_end2_22, m_failed2_23, m_fault2_24, d_letters2_25, m_nameSize2_26, m_place2_27, m_token2_28, m_whole2_29, r_30, hq_38, (Or.inl ⟨h_41, ⟨z_44, ez_44, ⟨b_47, hj_50, ⟨m_at2_56, m_end2_57, m_failed2_58, m_fault2_59, d_letters2_60, m_nameSize2_61, m_place2_62, m_token2_63, m_whole2_64, r_65, hq_73, (Or.inl ⟨h_76, ⟨z_79, ez_79, ⟨b_82, hj_85, ⟨m_at2_91, m_end2_92, m_failed2_93, m_fault2_94, d_letters2_95, m_nameSize2_96, m_place2_97, m_token2_98, m_whole2_99, r_100, hq_108, (Or.inl ⟨h_111, ⟨z_114, ez_114, ⟨b_117, hj_120, ⟨m_at2_126, m_end2_127, m_failed2_128, m_fault2_129, d_letters2_130, m_nameSize2_131, m_place2_132, m_token2_133, m_whole2_134, r_135, hq_143, (Or.inl ⟨h_146, ⟨z_149, ez_149, ⟨b_152, hj_155, ⟨m_at2_161, m_end2_162, m_failed2_163, m_fault2_164, d_letters2_165, m_nameSize2_166, m_place2_167, m_token2_168, m_whole2_169, r_170, hq_178, (Or.inl ⟨h_181, ⟨z_184, ez_184, ⟨b_187, hj_190, ⟨m_at2_196, m_end2_197, m_failed2_198, m_fault2_199, d_letters2_200, m_nameSize2_201, m_place2_202, m_token2_203, m_whole2_204, r_205, hq_213, (Or.inl ⟨h_216, ⟨z_219, ez_219, ⟨b_222, hj_225, ⟨m_at2_231, m_end2_232, m_failed2_233, m_fault2_234, d_letters2_235, m_nameSize2_236, m_place2_237, m_token2_238, m_whole2_239, r_240, hq_247, (Or.inl ⟨h_250, ⟨z_253, ez_253, ⟨b_256, hj_259, ⟨m_at2_265, m_end2_266, m_failed2_267, m_fault2_268, d_letters2_269, m_nameSize2_270, m_place2_271, m_token2_272, m_whole2_273, r_274, hq_281, (Or.inl ⟨h_284, ⟨r_287, hq_289, (Or.inl ⟨h_291, ⟨z_294, ez_294, ⟨b_297, hj_300, ⟨m_at2_306, m_end2_307, m_failed2_308, m_fault2_309, d_letters2_310, m_nameSize2_311, m_place2_312, m_token2_313, m_whole2_314, r_315, hq_323, (Or.inl ⟨h_326, ⟨m_failed2_328, m_fault2_329, m_place2_330, hq_333, ⟨rfl, rfl, rfl, rfl, rfl, rfl, rfl, rfl, rfl, rfl⟩⟩⟩)⟩⟩⟩⟩)⟩⟩)⟩⟩⟩⟩)⟩⟩⟩⟩)⟩⟩⟩⟩)⟩⟩⟩⟩)⟩⟩⟩⟩)⟩⟩⟩⟩)⟩⟩⟩⟩)⟩⟩⟩⟩)⟩, hk_325, rfl⟩
                                        · skip
                                          have hc_334 := hk_324.resolve_left h_326
                                          have iv_335 : IV m_token2_272 2 2 := iv_meet (iv_any m_token2_272) hc_334 (zle_o rfl) (zle_o rfl)
                                          have hc_336 := hk_283 (iv_eq iv_335 iq_2_2_2)
                                          have iv_337 : IV m_nameSize2_270 0 8 := iv_meet iv_277 hc_336 (zle_o rfl) (zle_o rfl)
                                          have iv_338 : IV r_315 1 1 := iv_neL h_326 iv_319 iq_0_0_0 (zle_e rfl)
                                          refine k_aload_n X dX11_readLine_k9.2.1.1.2 0 rfl ?_
                                          refine k_callVV (n := 0) (As := []) (st := []) X [(cO11_i1r1i10r1i2r5i2r12i3r4i2 h0 m_thrown a_tape m_taped m_size m_at2_306 m_end2_307 m_token2_313 m_whole2_314 m_nameSize2_311 m_fault2_309 m_place2_312 m_trouble a_letters m_failed2_308 m_hasHouse a_r a_fresh a_st a_undone a_kept m_undos m_images a_from a_begin a_motor a_change a_startFrame a_changeFrame a_lostAt a_blackAt a_slips a_leftArc a_died a_arcs m_bestSum m_nearest m_nearestTown a_there a_backAt a_sorted a_parts m_seed1 m_darkNow), (cAI g a_tape 900 d_tape), (cAI g a_letters 8 d_letters2_310), (cAI g a_fresh 311 d_fresh)] [] [0, 1, 2, 3] [] (m_scratchLineX l g h0 m_thrown a_tape m_taped m_size m_at2_306 m_end2_307 m_token2_313 m_whole2_314 m_nameSize2_311 m_fault2_309 m_place2_312 m_trouble a_letters m_failed2_308 m_hasHouse a_r a_fresh a_st a_undone a_kept m_undos m_images a_from a_begin a_motor a_change a_startFrame a_changeFrame a_lostAt a_blackAt a_slips a_leftArc a_died a_arcs m_bestSum m_nearest m_nearestTown a_there a_backAt a_sorted a_parts m_seed1 m_darkNow d_tape d_letters2_310 d_fresh (iv_w hv_m_size (zle_e rfl) (zle_e rfl)) (iv_w iv_316 (zle_e rfl) (zle_e rfl)) (iv_w iv_318 (zle_e rfl) (zle_e rfl)) (iv_w iv_317 (zle_e rfl) (zle_e rfl)) hp_d_fresh hr_0 (by rcases hq_320 with q | q | q; exact absurd q h_326; exact Or.inl q; exact Or.inr (by rcases hb_298 with z | z; exact absurd z q; omega)) hk_325) dX11_readLine_k9.2.1.2.1 mw615 mw616 mw617 mw5 mw618 rfl 11 rfl rfl 0 _ rfl yk_yX11_scratchLine_0 rfl (Nat.le_of_ble_eq_true rfl) (Nat.le_of_ble_eq_true rfl) (Nat.le_of_ble_eq_true rfl) (Nat.le_of_ble_eq_true rfl) (Nat.le_of_ble_eq_true rfl) rfl rfl (vnd_e rfl) rfl (vnd_e rfl) (dsj_e rfl) ?_
                                          intro w zq
                                          refine exE10 zq ?_
                                          clear zq
                                          intro m_at2_339 m_end2_340 m_failed2_341 m_fault2_342 d_fresh2_343 d_letters2_344 m_nameSize2_345 m_place2_346 m_token2_347 m_whole2_348 iv_350 zq
                                          refine exA7 zq ?_
                                          clear zq
                                          intro iv_351 iv_352 hp_353 hq_354 hq_355 hq_356 hk_357 zq
                                          subst zq
                                          refine k_ws [(cO11_i1r1i10r1i2r5i2r12i3r4i2 h0 m_thrown a_tape m_taped m_size m_at2_339 m_end2_340 m_token2_347 m_whole2_348 m_nameSize2_345 m_fault2_342 m_place2_346 m_trouble a_letters m_failed2_341 m_hasHouse a_r a_fresh a_st a_undone a_kept m_undos m_images a_from a_begin a_motor a_change a_startFrame a_changeFrame a_lostAt a_blackAt a_slips a_leftArc a_died a_arcs m_bestSum m_nearest m_nearestTown a_there a_backAt a_sorted a_parts m_seed1 m_darkNow), (cAI g a_tape 900 d_tape), (cAI g a_letters 8 d_letters2_344), (cAI g a_fresh 311 d_fresh2_343)] rfl ?_
                                          refine k_goto 333 X dX11_readLine_k9.2.1.2.2 (jp_e rfl) ?_
                                          exact k_vret X hr dX11_readLine_k10.2 (Nat.le_of_ble_eq_true rfl) (Nat.le_of_ble_eq_true rfl) [0, 1, 2, 3] (vnd_e rfl) rfl rfl ⟨m_at2_339, m_end2_340, m_failed2_341, m_fault2_342, d_fresh2_343, d_letters2_344, m_nameSize2_345, m_place2_346, m_token2_347, m_whole2_348, (iv_w iv_350 (zle_e rfl) (zle_e rfl)), (iv_w iv_351 (zle_e rfl) (zle_e rfl)), (iv_w iv_352 (zle_e rfl) (zle_e rfl)), hp_353, (by omega), (by omega), hq_355, ⟨r_2, hq_4, (Or.inl ⟨h_6, ⟨z_9, ez_9, ⟨b_12, hj_15, ⟨m_at2_21, m_end2_22, m_failed2_23, m_fault2_24, d_letters2_25, m_nameSize2_26, m_place2_27, m_token2_28, m_whole2_29, r_30, hq_38, (Or.inl ⟨h_41, ⟨z_44, ez_44, ⟨b_47, hj_50, ⟨m_at2_56, m_end2_57, m_failed2_58, m_fault2_59, d_letters2_60, m_nameSize2_61, m_place2_62, m_token2_63, m_whole2_64, r_65, hq_73, (Or.inl ⟨h_76, ⟨z_79, ez_79, ⟨b_82, hj_85, ⟨m_at2_91, m_end2_92, m_failed2_93, m_fault2_94, d_letters2_95, m_nameSize2_96, m_place2_97, m_token2_98, m_whole2_99, r_100, hq_108, (Or.inl ⟨h_111, ⟨z_114, ez_114, ⟨b_117, hj_120, ⟨m_at2_126, m_end2_127, m_failed2_128, m_fault2_129, d_letters2_130, m_nameSize2_131, m_place2_132, m_token2_133, m_whole2_134, r_135, hq_143, (Or.inl ⟨h_146, ⟨z_149, ez_149, ⟨b_152, hj_155, ⟨m_at2_161, m_end2_162, m_failed2_163, m_fault2_164, d_letters2_165, m_nameSize2_166, m_place2_167, m_token2_168, m_whole2_169, r_170, hq_178, (Or.inl ⟨h_181, ⟨z_184, ez_184, ⟨b_187, hj_190, ⟨m_at2_196, m_end2_197, m_failed2_198, m_fault2_199, d_letters2_200, m_nameSize2_201, m_place2_202, m_token2_203, m_whole2_204, r_205, hq_213, (Or.inl ⟨h_216, ⟨z_219, ez_219, ⟨b_222, hj_225, ⟨m_at2_231, m_end2_232, m_failed2_233, m_fault2_234, d_letters2_235, m_nameSize2_236, m_place2_237, m_token2_238, m_whole2_239, r_240, hq_247, (Or.inl ⟨h_250, ⟨z_253, ez_253, ⟨b_256, hj_259, ⟨m_at2_265, m_end2_266, m_failed2_267, m_fault2_268, d_letters2_269, m_nameSize2_270, m_place2_271, m_token2_272, m_whole2_273, r_274, hq_281, (Or.inl ⟨h_284, ⟨r_287, hq_289, (Or.inl ⟨h_291, ⟨z_294, ez_294, ⟨b_297, hj_300, ⟨m_at2_306, m_end2_307, m_failed2_308, m_fault2_309, d_letters2_310, m_nameSize2_311, m_place2_312, m_token2_313, m_whole2_314, r_315, hq_323, (Or.inr ⟨h_326, ⟨m_at2_339, m_end2_340, m_failed2_341, m_fault2_342, d_fresh2_343, d_letters2_344, m_nameSize2_345, m_place2_346, m_token2_347, m_whole2_348, hq_356, ⟨rfl, rfl, rfl, rfl, rfl, rfl, rfl, rfl, rfl, rfl⟩⟩⟩)⟩⟩⟩⟩)⟩⟩)⟩⟩⟩⟩)⟩⟩⟩⟩)⟩⟩⟩⟩)⟩⟩⟩⟩)⟩⟩⟩⟩)⟩⟩⟩⟩)⟩⟩⟩⟩)⟩⟩⟩⟩)⟩, hk_357, rfl⟩
                                    · skip
                                      have hc_358 := hk_290.resolve_left h_291
                                      have iv_359 : IV m_token2_272 2 2 := iv_meet (iv_any m_token2_272) hc_358.1 (zle_o rfl) (zle_o rfl)
                                      have hc_360 := hk_283 (iv_eq iv_359 iq_2_2_2)
                                      have iv_361 : IV m_nameSize2_270 0 8 := iv_meet iv_277 hc_360 (zle_o rfl) (zle_o rfl)
                                      have iv_362 : IV m_failed2_267 0 0 := iv_meet iv_276 hc_358.2 (zle_o rfl) (zle_o rfl)
                                      have iv_363 : IV r_287 1 1 := iv_neL h_291 iv_288 iq_0_0_0 (zle_e rfl)
                                      refine k_aload_n X dX11_readLine_k8.2.1.1.2 0 rfl ?_
                                      refine k_callVV (n := 0) (As := []) (st := []) X [(cO11_i1r1i10r1i2r5i2r12i3r4i2 h0 m_thrown a_tape m_taped m_size m_at2_265 m_end2_266 m_token2_272 m_whole2_273 m_nameSize2_270 m_fault2_268 m_place2_271 m_trouble a_letters m_failed2_267 m_hasHouse a_r a_fresh a_st a_undone a_kept m_undos m_images a_from a_begin a_motor a_change a_startFrame a_changeFrame a_lostAt a_blackAt a_slips a_leftArc a_died a_arcs m_bestSum m_nearest m_nearestTown a_there a_backAt a_sorted a_parts m_seed1 m_darkNow), (cAI g a_tape 900 d_tape), (cAI g a_letters 8 d_letters2_269), (cAI g a_fresh 311 d_fresh)] [] [2, 0, 3, 1] [] (m_seenLineX l g h0 m_thrown a_tape m_taped m_size m_at2_265 m_end2_266 m_token2_272 m_whole2_273 m_nameSize2_270 m_fault2_268 m_place2_271 m_trouble a_letters m_failed2_267 m_hasHouse a_r a_fresh a_st a_undone a_kept m_undos m_images a_from a_begin a_motor a_change a_startFrame a_changeFrame a_lostAt a_blackAt a_slips a_leftArc a_died a_arcs m_bestSum m_nearest m_nearestTown a_there a_backAt a_sorted a_parts m_seed1 m_darkNow d_tape d_letters2_269 d_fresh (iv_w hv_m_size (zle_e rfl) (zle_e rfl)) (iv_w iv_275 (zle_e rfl) (zle_e rfl)) (iv_w iv_361 (zle_e rfl) (zle_e rfl)) (iv_w iv_362 (zle_e rfl) (zle_e rfl)) hp_d_fresh hr_0 (fun _ => (iv_w iv_361 (zle_e rfl) (zle_e rfl)))) dX11_readLine_k8.2.1.2.1 mw611 mw612 mw613 mw5 mw614 rfl 11 rfl rfl 0 _ rfl yk_yX11_seenLine_0 rfl (Nat.le_of_ble_eq_true rfl) (Nat.le_of_ble_eq_true rfl) (Nat.le_of_ble_eq_true rfl) (Nat.le_of_ble_eq_true rfl) (Nat.le_of_ble_eq_true rfl) rfl rfl (vnd_e rfl) rfl (vnd_e rfl) (dsj_e rfl) ?_
                                      intro w zq
                                      refine exE10 zq ?_
                                      clear zq
                                      intro m_at2_364 m_end2_365 m_failed2_366 m_fault2_367 d_fresh2_368 d_letters2_369 m_nameSize2_370 m_place2_371 m_token2_372 m_whole2_373 iv_375 zq
                                      refine exA7 zq ?_
                                      clear zq
                                      intro iv_376 iv_377 hp_378 hq_379 hq_380 hq_381 hk_382 zq
                                      subst zq
                                      refine k_ws [(cO11_i1r1i10r1i2r5i2r12i3r4i2 h0 m_thrown a_tape m_taped m_size m_at2_364 m_end2_365 m_token2_372 m_whole2_373 m_nameSize2_370 m_fault2_367 m_place2_371 m_trouble a_letters m_failed2_366 m_hasHouse a_r a_fresh a_st a_undone a_kept m_undos m_images a_from a_begin a_motor a_change a_startFrame a_changeFrame a_lostAt a_blackAt a_slips a_leftArc a_died a_arcs m_bestSum m_nearest m_nearestTown a_there a_backAt a_sorted a_parts m_seed1 m_darkNow), (cAI g a_tape 900 d_tape), (cAI g a_letters 8 d_letters2_369), (cAI g a_fresh 311 d_fresh2_368)] rfl ?_
                                      refine k_goto 333 X dX11_readLine_k8.2.1.2.2 (jp_e rfl) ?_
                                      exact k_vret X hr dX11_readLine_k10.2 (Nat.le_of_ble_eq_true rfl) (Nat.le_of_ble_eq_true rfl) [0, 1, 2, 3] (vnd_e rfl) rfl rfl ⟨m_at2_364, m_end2_365, m_failed2_366, m_fault2_367, d_fresh2_368, d_letters2_369, m_nameSize2_370, m_place2_371, m_token2_372, m_whole2_373, (iv_w iv_375 (zle_e rfl) (zle_e rfl)), (iv_w iv_376 (zle_e rfl) (zle_e rfl)), (iv_w iv_377 (zle_e rfl) (zle_e rfl)), hp_378, (by omega), (by omega), hq_380, ⟨r_2, hq_4, (Or.inl ⟨h_6, ⟨z_9, ez_9, ⟨b_12, hj_15, ⟨m_at2_21, m_end2_22, m_failed2_23, m_fault2_24, d_letters2_25, m_nameSize2_26, m_place2_27, m_token2_28, m_whole2_29, r_30, hq_38, (Or.inl ⟨h_41, ⟨z_44, ez_44, ⟨b_47, hj_50, ⟨m_at2_56, m_end2_57, m_failed2_58, m_fault2_59, d_letters2_60, m_nameSize2_61, m_place2_62, m_token2_63, m_whole2_64, r_65, hq_73, (Or.inl ⟨h_76, ⟨z_79, ez_79, ⟨b_82, hj_85, ⟨m_at2_91, m_end2_92, m_failed2_93, m_fault2_94, d_letters2_95, m_nameSize2_96, m_place2_97, m_token2_98, m_whole2_99, r_100, hq_108, (Or.inl ⟨h_111, ⟨z_114, ez_114, ⟨b_117, hj_120, ⟨m_at2_126, m_end2_127, m_failed2_128, m_fault2_129, d_letters2_130, m_nameSize2_131, m_place2_132, m_token2_133, m_whole2_134, r_135, hq_143, (Or.inl ⟨h_146, ⟨z_149, ez_149, ⟨b_152, hj_155, ⟨m_at2_161, m_end2_162, m_failed2_163, m_fault2_164, d_letters2_165, m_nameSize2_166, m_place2_167, m_token2_168, m_whole2_169, r_170, hq_178, (Or.inl ⟨h_181, ⟨z_184, ez_184, ⟨b_187, hj_190, ⟨m_at2_196, m_end2_197, m_failed2_198, m_fault2_199, d_letters2_200, m_nameSize2_201, m_place2_202, m_token2_203, m_whole2_204, r_205, hq_213, (Or.inl ⟨h_216, ⟨z_219, ez_219, ⟨b_222, hj_225, ⟨m_at2_231, m_end2_232, m_failed2_233, m_fault2_234, d_letters2_235, m_nameSize2_236, m_place2_237, m_token2_238, m_whole2_239, r_240, hq_247, (Or.inl ⟨h_250, ⟨z_253, ez_253, ⟨b_256, hj_259, ⟨m_at2_265, m_end2_266, m_failed2_267, m_fault2_268, d_letters2_269, m_nameSize2_270, m_place2_271, m_token2_272, m_whole2_273, r_274, hq_281, (Or.inl ⟨h_284, ⟨r_287, hq_289, (Or.inr ⟨h_291, ⟨m_at2_364, m_end2_365, m_failed2_366, m_fault2_367, d_fresh2_368, d_letters2_369, m_nameSize2_370, m_place2_371, m_token2_372, m_whole2_373, hq_381, ⟨rfl, rfl, rfl, rfl, rfl, rfl, rfl, rfl, rfl, rfl⟩⟩⟩)⟩⟩)⟩⟩⟩⟩)⟩⟩⟩⟩)⟩⟩⟩⟩)⟩⟩⟩⟩)⟩⟩⟩⟩)⟩⟩⟩⟩)⟩⟩⟩⟩)⟩⟩⟩⟩)⟩, hk_382, rfl⟩
                                  · skip
                                    have hc_383 := hk_282.resolve_left h_284
                                    have iv_384 : IV m_token2_238 2 2 := iv_meet (iv_any m_token2_238) hc_383 (zle_o rfl) (zle_o rfl)
                                    have hc_385 := hk_249 (iv_eq iv_384 iq_2_2_2)
                                    have iv_386 : IV m_nameSize2_236 0 8 := iv_meet iv_243 hc_385 (zle_o rfl) (zle_o rfl)
                                    have iv_387 : IV r_274 1 1 := iv_neL h_284 iv_278 iq_0_0_0 (zle_e rfl)
                                    refine k_aload_n X dX11_readLine_k8.1.1.2.1 0 rfl ?_
                                    refine k_callVV (n := 0) (As := []) (st := []) X [(cO11_i1r1i10r1i2r5i2r12i3r4i2 h0 m_thrown a_tape m_taped m_size m_at2_265 m_end2_266 m_token2_272 m_whole2_273 m_nameSize2_270 m_fault2_268 m_place2_271 m_trouble a_letters m_failed2_267 m_hasHouse a_r a_fresh a_st a_undone a_kept m_undos m_images a_from a_begin a_motor a_change a_startFrame a_changeFrame a_lostAt a_blackAt a_slips a_leftArc a_died a_arcs m_bestSum m_nearest m_nearestTown a_there a_backAt a_sorted a_parts m_seed1 m_darkNow), (cAI g a_tape 900 d_tape), (cAI g a_letters 8 d_letters2_269), (cAI g a_fresh 311 d_fresh)] [] [0, 1, 2, 3] [] (m_boysLineX l g h0 m_thrown a_tape m_taped m_size m_at2_265 m_end2_266 m_token2_272 m_whole2_273 m_nameSize2_270 m_fault2_268 m_place2_271 m_trouble a_letters m_failed2_267 m_hasHouse a_r a_fresh a_st a_undone a_kept m_undos m_images a_from a_begin a_motor a_change a_startFrame a_changeFrame a_lostAt a_blackAt a_slips a_leftArc a_died a_arcs m_bestSum m_nearest m_nearestTown a_there a_backAt a_sorted a_parts m_seed1 m_darkNow d_tape d_letters2_269 d_fresh (iv_w hv_m_size (zle_e rfl) (zle_e rfl)) (iv_w iv_275 (zle_e rfl) (zle_e rfl)) (iv_w iv_277 (zle_e rfl) (zle_e rfl)) (iv_w iv_276 (zle_e rfl) (zle_e rfl)) hp_d_fresh hr_0 hk_283) dX11_readLine_k8.1.1.2.2 mw607 mw608 mw609 mw5 mw610 rfl 11 rfl rfl 0 _ rfl yk_yX11_boysLine_0 rfl (Nat.le_of_ble_eq_true rfl) (Nat.le_of_ble_eq_true rfl) (Nat.le_of_ble_eq_true rfl) (Nat.le_of_ble_eq_true rfl) (Nat.le_of_ble_eq_true rfl) rfl rfl (vnd_e rfl) rfl (vnd_e rfl) (dsj_e rfl) ?_
                                    intro w zq
                                    refine exE10 zq ?_
                                    clear zq
                                    intro m_at2_388 m_end2_389 m_failed2_390 m_fault2_391 d_fresh2_392 d_letters2_393 m_nameSize2_394 m_place2_395 m_token2_396 m_whole2_397 iv_399 zq
                                    refine exA7 zq ?_
                                    clear zq
                                    intro iv_400 iv_401 hp_402 hq_403 hq_404 hq_405 hk_406 zq
                                    subst zq
                                    refine k_ws [(cO11_i1r1i10r1i2r5i2r12i3r4i2 h0 m_thrown a_tape m_taped m_size m_at2_388 m_end2_389 m_token2_396 m_whole2_397 m_nameSize2_394 m_fault2_391 m_place2_395 m_trouble a_letters m_failed2_390 m_hasHouse a_r a_fresh a_st a_undone a_kept m_undos m_images a_from a_begin a_motor a_change a_startFrame a_changeFrame a_lostAt a_blackAt a_slips a_leftArc a_died a_arcs m_bestSum m_nearest m_nearestTown a_there a_backAt a_sorted a_parts m_seed1 m_darkNow), (cAI g a_tape 900 d_tape), (cAI g a_letters 8 d_letters2_393), (cAI g a_fresh 311 d_fresh2_392)] rfl ?_
                                    refine k_goto 333 X dX11_readLine_k8.1.2.1.1 (jp_e rfl) ?_
                                    exact k_vret X hr dX11_readLine_k10.2 (Nat.le_of_ble_eq_true rfl) (Nat.le_of_ble_eq_true rfl) [0, 1, 2, 3] (vnd_e rfl) rfl rfl ⟨m_at2_388, m_end2_389, m_failed2_390, m_fault2_391, d_fresh2_392, d_letters2_393, m_nameSize2_394, m_place2_395, m_token2_396, m_whole2_397, (iv_w iv_399 (zle_e rfl) (zle_e rfl)), (iv_w iv_400 (zle_e rfl) (zle_e rfl)), (iv_w iv_401 (zle_e rfl) (zle_e rfl)), hp_402, (by omega), (by omega), hq_404, ⟨r_2, hq_4, (Or.inl ⟨h_6, ⟨z_9, ez_9, ⟨b_12, hj_15, ⟨m_at2_21, m_end2_22, m_failed2_23, m_fault2_24, d_letters2_25, m_nameSize2_26, m_place2_27, m_token2_28, m_whole2_29, r_30, hq_38, (Or.inl ⟨h_41, ⟨z_44, ez_44, ⟨b_47, hj_50, ⟨m_at2_56, m_end2_57, m_failed2_58, m_fault2_59, d_letters2_60, m_nameSize2_61, m_place2_62, m_token2_63, m_whole2_64, r_65, hq_73, (Or.inl ⟨h_76, ⟨z_79, ez_79, ⟨b_82, hj_85, ⟨m_at2_91, m_end2_92, m_failed2_93, m_fault2_94, d_letters2_95, m_nameSize2_96, m_place2_97, m_token2_98, m_whole2_99, r_100, hq_108, (Or.inl ⟨h_111, ⟨z_114, ez_114, ⟨b_117, hj_120, ⟨m_at2_126, m_end2_127, m_failed2_128, m_fault2_129, d_letters2_130, m_nameSize2_131, m_place2_132, m_token2_133, m_whole2_134, r_135, hq_143, (Or.inl ⟨h_146, ⟨z_149, ez_149, ⟨b_152, hj_155, ⟨m_at2_161, m_end2_162, m_failed2_163, m_fault2_164, d_letters2_165, m_nameSize2_166, m_place2_167, m_token2_168, m_whole2_169, r_170, hq_178, (Or.inl ⟨h_181, ⟨z_184, ez_184, ⟨b_187, hj_190, ⟨m_at2_196, m_end2_197, m_failed2_198, m_fault2_199, d_letters2_200, m_nameSize2_201, m_place2_202, m_token2_203, m_whole2_204, r_205, hq_213, (Or.inl ⟨h_216, ⟨z_219, ez_219, ⟨b_222, hj_225, ⟨m_at2_231, m_end2_232, m_failed2_233, m_fault2_234, d_letters2_235, m_nameSize2_236, m_place2_237, m_token2_238, m_whole2_239, r_240, hq_247, (Or.inl ⟨h_250, ⟨z_253, ez_253, ⟨b_256, hj_259, ⟨m_at2_265, m_end2_266, m_failed2_267, m_fault2_268, d_letters2_269, m_nameSize2_270, m_place2_271, m_token2_272, m_whole2_273, r_274, hq_281, (Or.inr ⟨h_284, ⟨m_at2_388, m_end2_389, m_failed2_390, m_fault2_391, d_fresh2_392, d_letters2_393, m_nameSize2_394, m_place2_395, m_token2_396, m_whole2_397, hq_405, ⟨rfl, rfl, rfl, rfl, rfl, rfl, rfl, rfl, rfl, rfl⟩⟩⟩)⟩⟩⟩⟩)⟩⟩⟩⟩)⟩⟩⟩⟩)⟩⟩⟩⟩)⟩⟩⟩⟩)⟩⟩⟩⟩)⟩⟩⟩⟩)⟩⟩⟩⟩)⟩, hk_406, rfl⟩
                              · skip
                                have hc_407 := hk_248.resolve_left h_250
                                have iv_408 : IV m_token2_203 2 2 := iv_meet (iv_any m_token2_203) hc_407 (zle_o rfl) (zle_o rfl)
                                have hc_409 := hk_215 (iv_eq iv_408 iq_2_2_2)
                                have iv_410 : IV m_nameSize2_201 0 8 := iv_meet iv_208 hc_409 (zle_o rfl) (zle_o rfl)
                                have iv_411 : IV r_240 1 1 := iv_neL h_250 iv_244 iq_0_0_0 (zle_e rfl)
                                refine k_aload_n X dX11_readLine_k7.1.1.2.2 0 rfl ?_
                                refine k_callVV (n := 0) (As := []) (st := []) X [(cO11_i1r1i10r1i2r5i2r12i3r4i2 h0 m_thrown a_tape m_taped m_size m_at2_231 m_end2_232 m_token2_238 m_whole2_239 m_nameSize2_236 m_fault2_234 m_place2_237 m_trouble a_letters m_failed2_233 m_hasHouse a_r a_fresh a_st a_undone a_kept m_undos m_images a_from a_begin a_motor a_change a_startFrame a_changeFrame a_lostAt a_blackAt a_slips a_leftArc a_died a_arcs m_bestSum m_nearest m_nearestTown a_there a_backAt a_sorted a_parts m_seed1 m_darkNow), (cAI g a_tape 900 d_tape), (cAI g a_letters 8 d_letters2_235), (cAI g a_fresh 311 d_fresh)] [] [0, 1, 2, 3] [] (m_showsLineX l g h0 m_thrown a_tape m_taped m_size m_at2_231 m_end2_232 m_token2_238 m_whole2_239 m_nameSize2_236 m_fault2_234 m_place2_237 m_trouble a_letters m_failed2_233 m_hasHouse a_r a_fresh a_st a_undone a_kept m_undos m_images a_from a_begin a_motor a_change a_startFrame a_changeFrame a_lostAt a_blackAt a_slips a_leftArc a_died a_arcs m_bestSum m_nearest m_nearestTown a_there a_backAt a_sorted a_parts m_seed1 m_darkNow d_tape d_letters2_235 d_fresh (iv_w hv_m_size (zle_e rfl) (zle_e rfl)) (iv_w iv_241 (zle_e rfl) (zle_e rfl)) (iv_w iv_243 (zle_e rfl) (zle_e rfl)) (iv_w iv_242 (zle_e rfl) (zle_e rfl)) hp_d_fresh hr_0 hk_249) dX11_readLine_k7.1.2.1.1 mw599 mw600 mw601 mw5 mw602 rfl 11 rfl rfl 0 _ rfl yk_yX11_showsLine_0 rfl (Nat.le_of_ble_eq_true rfl) (Nat.le_of_ble_eq_true rfl) (Nat.le_of_ble_eq_true rfl) (Nat.le_of_ble_eq_true rfl) (Nat.le_of_ble_eq_true rfl) rfl rfl (vnd_e rfl) rfl (vnd_e rfl) (dsj_e rfl) ?_
                                intro w zq
                                refine exE10 zq ?_
                                clear zq
                                intro m_at2_412 m_end2_413 m_failed2_414 m_fault2_415 d_fresh2_416 d_letters2_417 m_nameSize2_418 m_place2_419 m_token2_420 m_whole2_421 iv_423 zq
                                refine exA7 zq ?_
                                clear zq
                                intro iv_424 iv_425 hp_426 hq_427 hq_428 hq_429 hk_430 zq
                                subst zq
                                refine k_ws [(cO11_i1r1i10r1i2r5i2r12i3r4i2 h0 m_thrown a_tape m_taped m_size m_at2_412 m_end2_413 m_token2_420 m_whole2_421 m_nameSize2_418 m_fault2_415 m_place2_419 m_trouble a_letters m_failed2_414 m_hasHouse a_r a_fresh a_st a_undone a_kept m_undos m_images a_from a_begin a_motor a_change a_startFrame a_changeFrame a_lostAt a_blackAt a_slips a_leftArc a_died a_arcs m_bestSum m_nearest m_nearestTown a_there a_backAt a_sorted a_parts m_seed1 m_darkNow), (cAI g a_tape 900 d_tape), (cAI g a_letters 8 d_letters2_417), (cAI g a_fresh 311 d_fresh2_416)] rfl ?_
                                refine k_goto 333 X dX11_readLine_k7.1.2.1.2 (jp_e rfl) ?_
                                exact k_vret X hr dX11_readLine_k10.2 (Nat.le_of_ble_eq_true rfl) (Nat.le_of_ble_eq_true rfl) [0, 1, 2, 3] (vnd_e rfl) rfl rfl ⟨m_at2_412, m_end2_413, m_failed2_414, m_fault2_415, d_fresh2_416, d_letters2_417, m_nameSize2_418, m_place2_419, m_token2_420, m_whole2_421, (iv_w iv_423 (zle_e rfl) (zle_e rfl)), (iv_w iv_424 (zle_e rfl) (zle_e rfl)), (iv_w iv_425 (zle_e rfl) (zle_e rfl)), hp_426, (by omega), (by omega), hq_428, ⟨r_2, hq_4, (Or.inl ⟨h_6, ⟨z_9, ez_9, ⟨b_12, hj_15, ⟨m_at2_21, m_end2_22, m_failed2_23, m_fault2_24, d_letters2_25, m_nameSize2_26, m_place2_27, m_token2_28, m_whole2_29, r_30, hq_38, (Or.inl ⟨h_41, ⟨z_44, ez_44, ⟨b_47, hj_50, ⟨m_at2_56, m_end2_57, m_failed2_58, m_fault2_59, d_letters2_60, m_nameSize2_61, m_place2_62, m_token2_63, m_whole2_64, r_65, hq_73, (Or.inl ⟨h_76, ⟨z_79, ez_79, ⟨b_82, hj_85, ⟨m_at2_91, m_end2_92, m_failed2_93, m_fault2_94, d_letters2_95, m_nameSize2_96, m_place2_97, m_token2_98, m_whole2_99, r_100, hq_108, (Or.inl ⟨h_111, ⟨z_114, ez_114, ⟨b_117, hj_120, ⟨m_at2_126, m_end2_127, m_failed2_128, m_fault2_129, d_letters2_130, m_nameSize2_131, m_place2_132, m_token2_133, m_whole2_134, r_135, hq_143, (Or.inl ⟨h_146, ⟨z_149, ez_149, ⟨b_152, hj_155, ⟨m_at2_161, m_end2_162, m_failed2_163, m_fault2_164, d_letters2_165, m_nameSize2_166, m_place2_167, m_token2_168, m_whole2_169, r_170, hq_178, (Or.inl ⟨h_181, ⟨z_184, ez_184, ⟨b_187, hj_190, ⟨m_at2_196, m_end2_197, m_failed2_198, m_fault2_199, d_letters2_200, m_nameSize2_201, m_place2_202, m_token2_203, m_whole2_204, r_205, hq_213, (Or.inl ⟨h_216, ⟨z_219, ez_219, ⟨b_222, hj_225, ⟨m_at2_231, m_end2_232, m_failed2_233, m_fault2_234, d_letters2_235, m_nameSize2_236, m_place2_237, m_token2_238, m_whole2_239, r_240, hq_247, (Or.inr ⟨h_250, ⟨m_at2_412, m_end2_413, m_failed2_414, m_fault2_415, d_fresh2_416, d_letters2_417, m_nameSize2_418, m_place2_419, m_token2_420, m_whole2_421, hq_429, ⟨rfl, rfl, rfl, rfl, rfl, rfl, rfl, rfl, rfl, rfl⟩⟩⟩)⟩⟩⟩⟩)⟩⟩⟩⟩)⟩⟩⟩⟩)⟩⟩⟩⟩)⟩⟩⟩⟩)⟩⟩⟩⟩)⟩⟩⟩⟩)⟩, hk_430, rfl⟩
                          · skip
                            have hc_431 := hk_214.resolve_left h_216
                            have iv_432 : IV m_token2_168 2 2 := iv_meet (iv_any m_token2_168) hc_431 (zle_o rfl) (zle_o rfl)
                            have hc_433 := hk_180 (iv_eq iv_432 iq_2_2_2)
                            have iv_434 : IV m_nameSize2_166 0 8 := iv_meet iv_173 hc_433 (zle_o rfl) (zle_o rfl)
                            have iv_435 : IV r_205 1 1 := iv_neL h_216 iv_209 iq_0_0_0 (zle_e rfl)
                            refine k_aload_n X dX11_readLine_k6.1.2.1.1 0 rfl ?_
                            refine k_callVV (n := 0) (As := []) (st := []) X [(cO11_i1r1i10r1i2r5i2r12i3r4i2 h0 m_thrown a_tape m_taped m_size m_at2_196 m_end2_197 m_token2_203 m_whole2_204 m_nameSize2_201 m_fault2_199 m_place2_202 m_trouble a_letters m_failed2_198 m_hasHouse a_r a_fresh a_st a_undone a_kept m_undos m_images a_from a_begin a_motor a_change a_startFrame a_changeFrame a_lostAt a_blackAt a_slips a_leftArc a_died a_arcs m_bestSum m_nearest m_nearestTown a_there a_backAt a_sorted a_parts m_seed1 m_darkNow), (cAI g a_tape 900 d_tape), (cAI g a_letters 8 d_letters2_200), (cAI g a_fresh 311 d_fresh)] [] [0, 1, 2, 3] [] (m_manLineX l g h0 m_thrown a_tape m_taped m_size m_at2_196 m_end2_197 m_token2_203 m_whole2_204 m_nameSize2_201 m_fault2_199 m_place2_202 m_trouble a_letters m_failed2_198 m_hasHouse a_r a_fresh a_st a_undone a_kept m_undos m_images a_from a_begin a_motor a_change a_startFrame a_changeFrame a_lostAt a_blackAt a_slips a_leftArc a_died a_arcs m_bestSum m_nearest m_nearestTown a_there a_backAt a_sorted a_parts m_seed1 m_darkNow d_tape d_letters2_200 d_fresh (iv_w hv_m_size (zle_e rfl) (zle_e rfl)) (iv_w iv_206 (zle_e rfl) (zle_e rfl)) (iv_w iv_208 (zle_e rfl) (zle_e rfl)) (iv_w iv_207 (zle_e rfl) (zle_e rfl)) hp_d_fresh hr_0 (by rcases hq_210 with q | q | q; exact absurd q h_216; exact Or.inl q; exact Or.inr (by rcases hb_188 with z | z; exact absurd z q; omega)) hk_215) dX11_readLine_k6.1.2.1.2 mw591 mw592 mw593 mw5 mw594 rfl 11 rfl rfl 0 _ rfl yk_yX11_manLine_0 rfl (Nat.le_of_ble_eq_true rfl) (Nat.le_of_ble_eq_true rfl) (Nat.le_of_ble_eq_true rfl) (Nat.le_of_ble_eq_true rfl) (Nat.le_of_ble_eq_true rfl) rfl rfl (vnd_e rfl) rfl (vnd_e rfl) (dsj_e rfl) ?_
                            intro w zq
                            refine exE10 zq ?_
                            clear zq
                            intro m_at2_436 m_end2_437 m_failed2_438 m_fault2_439 d_fresh2_440 d_letters2_441 m_nameSize2_442 m_place2_443 m_token2_444 m_whole2_445 iv_447 zq
                            refine exA7 zq ?_
                            clear zq
                            intro iv_448 iv_449 hp_450 hq_451 hq_452 hq_453 hk_454 zq
                            subst zq
                            refine k_ws [(cO11_i1r1i10r1i2r5i2r12i3r4i2 h0 m_thrown a_tape m_taped m_size m_at2_436 m_end2_437 m_token2_444 m_whole2_445 m_nameSize2_442 m_fault2_439 m_place2_443 m_trouble a_letters m_failed2_438 m_hasHouse a_r a_fresh a_st a_undone a_kept m_undos m_images a_from a_begin a_motor a_change a_startFrame a_changeFrame a_lostAt a_blackAt a_slips a_leftArc a_died a_arcs m_bestSum m_nearest m_nearestTown a_there a_backAt a_sorted a_parts m_seed1 m_darkNow), (cAI g a_tape 900 d_tape), (cAI g a_letters 8 d_letters2_441), (cAI g a_fresh 311 d_fresh2_440)] rfl ?_
                            refine k_goto 333 X dX11_readLine_k6.1.2.2.1 (jp_e rfl) ?_
                            exact k_vret X hr dX11_readLine_k10.2 (Nat.le_of_ble_eq_true rfl) (Nat.le_of_ble_eq_true rfl) [0, 1, 2, 3] (vnd_e rfl) rfl rfl ⟨m_at2_436, m_end2_437, m_failed2_438, m_fault2_439, d_fresh2_440, d_letters2_441, m_nameSize2_442, m_place2_443, m_token2_444, m_whole2_445, (iv_w iv_447 (zle_e rfl) (zle_e rfl)), (iv_w iv_448 (zle_e rfl) (zle_e rfl)), (iv_w iv_449 (zle_e rfl) (zle_e rfl)), hp_450, (by omega), (by omega), hq_452, ⟨r_2, hq_4, (Or.inl ⟨h_6, ⟨z_9, ez_9, ⟨b_12, hj_15, ⟨m_at2_21, m_end2_22, m_failed2_23, m_fault2_24, d_letters2_25, m_nameSize2_26, m_place2_27, m_token2_28, m_whole2_29, r_30, hq_38, (Or.inl ⟨h_41, ⟨z_44, ez_44, ⟨b_47, hj_50, ⟨m_at2_56, m_end2_57, m_failed2_58, m_fault2_59, d_letters2_60, m_nameSize2_61, m_place2_62, m_token2_63, m_whole2_64, r_65, hq_73, (Or.inl ⟨h_76, ⟨z_79, ez_79, ⟨b_82, hj_85, ⟨m_at2_91, m_end2_92, m_failed2_93, m_fault2_94, d_letters2_95, m_nameSize2_96, m_place2_97, m_token2_98, m_whole2_99, r_100, hq_108, (Or.inl ⟨h_111, ⟨z_114, ez_114, ⟨b_117, hj_120, ⟨m_at2_126, m_end2_127, m_failed2_128, m_fault2_129, d_letters2_130, m_nameSize2_131, m_place2_132, m_token2_133, m_whole2_134, r_135, hq_143, (Or.inl ⟨h_146, ⟨z_149, ez_149, ⟨b_152, hj_155, ⟨m_at2_161, m_end2_162, m_failed2_163, m_fault2_164, d_letters2_165, m_nameSize2_166, m_place2_167, m_token2_168, m_whole2_169, r_170, hq_178, (Or.inl ⟨h_181, ⟨z_184, ez_184, ⟨b_187, hj_190, ⟨m_at2_196, m_end2_197, m_failed2_198, m_fault2_199, d_letters2_200, m_nameSize2_201, m_place2_202, m_token2_203, m_whole2_204, r_205, hq_213, (Or.inr ⟨h_216, ⟨m_at2_436, m_end2_437, m_failed2_438, m_fault2_439, d_fresh2_440, d_letters2_441, m_nameSize2_442, m_place2_443, m_token2_444, m_whole2_445, hq_453, ⟨rfl, rfl, rfl, rfl, rfl, rfl, rfl, rfl, rfl, rfl⟩⟩⟩)⟩⟩⟩⟩)⟩⟩⟩⟩)⟩⟩⟩⟩)⟩⟩⟩⟩)⟩⟩⟩⟩)⟩⟩⟩⟩)⟩, hk_454, rfl⟩
                      · skip
                        have hc_455 := hk_179.resolve_left h_181
                        have iv_456 : IV m_token2_133 2 2 := iv_meet (iv_any m_token2_133) hc_455 (zle_o rfl) (zle_o rfl)
                        have hc_457 := hk_145 (iv_eq iv_456 iq_2_2_2)
                        have iv_458 : IV m_nameSize2_131 0 8 := iv_meet iv_138 hc_457 (zle_o rfl) (zle_o rfl)
                        have iv_459 : IV r_170 1 1 := iv_neL h_181 iv_174 iq_0_0_0 (zle_e rfl)
                        refine k_aload_n X dX11_readLine_k5.1.2.1.1 0 rfl ?_
                        refine k_callVV (n := 0) (As := []) (st := []) X [(cO11_i1r1i10r1i2r5i2r12i3r4i2 h0 m_thrown a_tape m_taped m_size m_at2_161 m_end2_162 m_token2_168 m_whole2_169 m_nameSize2_166 m_fault2_164 m_place2_167 m_trouble a_letters m_failed2_163 m_hasHouse a_r a_fresh a_st a_undone a_kept m_undos m_images a_from a_begin a_motor a_change a_startFrame a_changeFrame a_lostAt a_blackAt a_slips a_leftArc a_died a_arcs m_bestSum m_nearest m_nearestTown a_there a_backAt a_sorted a_parts m_seed1 m_darkNow), (cAI g a_tape 900 d_tape), (cAI g a_letters 8 d_letters2_165), (cAI g a_fresh 311 d_fresh)] [] [0, 1, 2, 3] [] (m_weakLineX l g h0 m_thrown a_tape m_taped m_size m_at2_161 m_end2_162 m_token2_168 m_whole2_169 m_nameSize2_166 m_fault2_164 m_place2_167 m_trouble a_letters m_failed2_163 m_hasHouse a_r a_fresh a_st a_undone a_kept m_undos m_images a_from a_begin a_motor a_change a_startFrame a_changeFrame a_lostAt a_blackAt a_slips a_leftArc a_died a_arcs m_bestSum m_nearest m_nearestTown a_there a_backAt a_sorted a_parts m_seed1 m_darkNow d_tape d_letters2_165 d_fresh (iv_w hv_m_size (zle_e rfl) (zle_e rfl)) (iv_w iv_171 (zle_e rfl) (zle_e rfl)) (iv_w iv_173 (zle_e rfl) (zle_e rfl)) (iv_w iv_172 (zle_e rfl) (zle_e rfl)) hp_d_fresh hr_0 (by rcases hq_175 with q | q | q; exact absurd q h_181; exact Or.inl q; exact Or.inr (by rcases hb_153 with z | z; exact absurd z q; omega)) hk_180) dX11_readLine_k5.1.2.1.2 mw587 mw588 mw589 mw5 mw590 rfl 11 rfl rfl 0 _ rfl yk_yX11_weakLine_0 rfl (Nat.le_of_ble_eq_true rfl) (Nat.le_of_ble_eq_true rfl) (Nat.le_of_ble_eq_true rfl) (Nat.le_of_ble_eq_true rfl) (Nat.le_of_ble_eq_true rfl) rfl rfl (vnd_e rfl) rfl (vnd_e rfl) (dsj_e rfl) ?_
                        intro w zq
                        refine exE10 zq ?_
                        clear zq
                        intro m_at2_460 m_end2_461 m_failed2_462 m_fault2_463 d_fresh2_464 d_letters2_465 m_nameSize2_466 m_place2_467 m_token2_468 m_whole2_469 iv_471 zq
                        refine exA7 zq ?_
                        clear zq
                        intro iv_472 iv_473 hp_474 hq_475 hq_476 hq_477 hk_478 zq
                        subst zq
                        refine k_ws [(cO11_i1r1i10r1i2r5i2r12i3r4i2 h0 m_thrown a_tape m_taped m_size m_at2_460 m_end2_461 m_token2_468 m_whole2_469 m_nameSize2_466 m_fault2_463 m_place2_467 m_trouble a_letters m_failed2_462 m_hasHouse a_r a_fresh a_st a_undone a_kept m_undos m_images a_from a_begin a_motor a_change a_startFrame a_changeFrame a_lostAt a_blackAt a_slips a_leftArc a_died a_arcs m_bestSum m_nearest m_nearestTown a_there a_backAt a_sorted a_parts m_seed1 m_darkNow), (cAI g a_tape 900 d_tape), (cAI g a_letters 8 d_letters2_465), (cAI g a_fresh 311 d_fresh2_464)] rfl ?_
                        refine k_goto 333 X dX11_readLine_k5.1.2.2.1 (jp_e rfl) ?_
                        exact k_vret X hr dX11_readLine_k10.2 (Nat.le_of_ble_eq_true rfl) (Nat.le_of_ble_eq_true rfl) [0, 1, 2, 3] (vnd_e rfl) rfl rfl ⟨m_at2_460, m_end2_461, m_failed2_462, m_fault2_463, d_fresh2_464, d_letters2_465, m_nameSize2_466, m_place2_467, m_token2_468, m_whole2_469, (iv_w iv_471 (zle_e rfl) (zle_e rfl)), (iv_w iv_472 (zle_e rfl) (zle_e rfl)), (iv_w iv_473 (zle_e rfl) (zle_e rfl)), hp_474, (by omega), (by omega), hq_476, ⟨r_2, hq_4, (Or.inl ⟨h_6, ⟨z_9, ez_9, ⟨b_12, hj_15, ⟨m_at2_21, m_end2_22, m_failed2_23, m_fault2_24, d_letters2_25, m_nameSize2_26, m_place2_27, m_token2_28, m_whole2_29, r_30, hq_38, (Or.inl ⟨h_41, ⟨z_44, ez_44, ⟨b_47, hj_50, ⟨m_at2_56, m_end2_57, m_failed2_58, m_fault2_59, d_letters2_60, m_nameSize2_61, m_place2_62, m_token2_63, m_whole2_64, r_65, hq_73, (Or.inl ⟨h_76, ⟨z_79, ez_79, ⟨b_82, hj_85, ⟨m_at2_91, m_end2_92, m_failed2_93, m_fault2_94, d_letters2_95, m_nameSize2_96, m_place2_97, m_token2_98, m_whole2_99, r_100, hq_108, (Or.inl ⟨h_111, ⟨z_114, ez_114, ⟨b_117, hj_120, ⟨m_at2_126, m_end2_127, m_failed2_128, m_fault2_129, d_letters2_130, m_nameSize2_131, m_place2_132, m_token2_133, m_whole2_134, r_135, hq_143, (Or.inl ⟨h_146, ⟨z_149, ez_149, ⟨b_152, hj_155, ⟨m_at2_161, m_end2_162, m_failed2_163, m_fault2_164, d_letters2_165, m_nameSize2_166, m_place2_167, m_token2_168, m_whole2_169, r_170, hq_178, (Or.inr ⟨h_181, ⟨m_at2_460, m_end2_461, m_failed2_462, m_fault2_463, d_fresh2_464, d_letters2_465, m_nameSize2_466, m_place2_467, m_token2_468, m_whole2_469, hq_477, ⟨rfl, rfl, rfl, rfl, rfl, rfl, rfl, rfl, rfl, rfl⟩⟩⟩)⟩⟩⟩⟩)⟩⟩⟩⟩)⟩⟩⟩⟩)⟩⟩⟩⟩)⟩⟩⟩⟩)⟩, hk_478, rfl⟩
                  · skip
                    have hc_479 := hk_144.resolve_left h_146
                    have iv_480 : IV m_token2_98 2 2 := iv_meet (iv_any m_token2_98) hc_479 (zle_o rfl) (zle_o rfl)
                    have hc_481 := hk_110 (iv_eq iv_480 iq_2_2_2)
                    have iv_482 : IV m_nameSize2_96 0 8 := iv_meet iv_103 hc_481 (zle_o rfl) (zle_o rfl)
                    have iv_483 : IV r_135 1 1 := iv_neL h_146 iv_139 iq_0_0_0 (zle_e rfl)
                    refine k_aload_n X dX11_readLine_k4.1.2.1.1 0 rfl ?_
                    refine k_callVV (n := 0) (As := []) (st := []) X [(cO11_i1r1i10r1i2r5i2r12i3r4i2 h0 m_thrown a_tape m_taped m_size m_at2_126 m_end2_127 m_token2_133 m_whole2_134 m_nameSize2_131 m_fault2_129 m_place2_132 m_trouble a_letters m_failed2_128 m_hasHouse a_r a_fresh a_st a_undone a_kept m_undos m_images a_from a_begin a_motor a_change a_startFrame a_changeFrame a_lostAt a_blackAt a_slips a_leftArc a_died a_arcs m_bestSum m_nearest m_nearestTown a_there a_backAt a_sorted a_parts m_seed1 m_darkNow), (cAI g a_tape 900 d_tape), (cAI g a_letters 8 d_letters2_130), (cAI g a_fresh 311 d_fresh)] [] [0, 1, 2, 3] [] (m_joinLineX l g h0 m_thrown a_tape m_taped m_size m_at2_126 m_end2_127 m_token2_133 m_whole2_134 m_nameSize2_131 m_fault2_129 m_place2_132 m_trouble a_letters m_failed2_128 m_hasHouse a_r a_fresh a_st a_undone a_kept m_undos m_images a_from a_begin a_motor a_change a_startFrame a_changeFrame a_lostAt a_blackAt a_slips a_leftArc a_died a_arcs m_bestSum m_nearest m_nearestTown a_there a_backAt a_sorted a_parts m_seed1 m_darkNow d_tape d_letters2_130 d_fresh (iv_w hv_m_size (zle_e rfl) (zle_e rfl)) (iv_w iv_136 (zle_e rfl) (zle_e rfl)) (iv_w iv_138 (zle_e rfl) (zle_e rfl)) (iv_w iv_137 (zle_e rfl) (zle_e rfl)) hp_d_fresh hr_0 (by rcases hq_140 with q | q | q; exact absurd q h_146; exact Or.inl q; exact Or.inr (by rcases hb_118 with z | z; exact absurd z q; omega)) hk_145) dX11_readLine_k4.1.2.1.2 mw583 mw584 mw585 mw5 mw586 rfl 11 rfl rfl 0 _ rfl yk_yX11_joinLine_0 rfl (Nat.le_of_ble_eq_true rfl) (Nat.le_of_ble_eq_true rfl) (Nat.le_of_ble_eq_true rfl) (Nat.le_of_ble_eq_true rfl) (Nat.le_of_ble_eq_true rfl) rfl rfl (vnd_e rfl) rfl (vnd_e rfl) (dsj_e rfl) ?_
                    intro w zq
                    refine exE10 zq ?_
                    clear zq
                    intro m_at2_484 m_end2_485 m_failed2_486 m_fault2_487 d_fresh2_488 d_letters2_489 m_nameSize2_490 m_place2_491 m_token2_492 m_whole2_493 iv_495 zq
                    refine exA7 zq ?_
                    clear zq
                    intro iv_496 iv_497 hp_498 hq_499 hq_500 hq_501 hk_502 zq
                    subst zq
                    refine k_ws [(cO11_i1r1i10r1i2r5i2r12i3r4i2 h0 m_thrown a_tape m_taped m_size m_at2_484 m_end2_485 m_token2_492 m_whole2_493 m_nameSize2_490 m_fault2_487 m_place2_491 m_trouble a_letters m_failed2_486 m_hasHouse a_r a_fresh a_st a_undone a_kept m_undos m_images a_from a_begin a_motor a_change a_startFrame a_changeFrame a_lostAt a_blackAt a_slips a_leftArc a_died a_arcs m_bestSum m_nearest m_nearestTown a_there a_backAt a_sorted a_parts m_seed1 m_darkNow), (cAI g a_tape 900 d_tape), (cAI g a_letters 8 d_letters2_489), (cAI g a_fresh 311 d_fresh2_488)] rfl ?_
                    refine k_goto 333 X dX11_readLine_k4.1.2.2.1 (jp_e rfl) ?_
                    exact k_vret X hr dX11_readLine_k10.2 (Nat.le_of_ble_eq_true rfl) (Nat.le_of_ble_eq_true rfl) [0, 1, 2, 3] (vnd_e rfl) rfl rfl ⟨m_at2_484, m_end2_485, m_failed2_486, m_fault2_487, d_fresh2_488, d_letters2_489, m_nameSize2_490, m_place2_491, m_token2_492, m_whole2_493, (iv_w iv_495 (zle_e rfl) (zle_e rfl)), (iv_w iv_496 (zle_e rfl) (zle_e rfl)), (iv_w iv_497 (zle_e rfl) (zle_e rfl)), hp_498, (by omega), (by omega), hq_500, ⟨r_2, hq_4, (Or.inl ⟨h_6, ⟨z_9, ez_9, ⟨b_12, hj_15, ⟨m_at2_21, m_end2_22, m_failed2_23, m_fault2_24, d_letters2_25, m_nameSize2_26, m_place2_27, m_token2_28, m_whole2_29, r_30, hq_38, (Or.inl ⟨h_41, ⟨z_44, ez_44, ⟨b_47, hj_50, ⟨m_at2_56, m_end2_57, m_failed2_58, m_fault2_59, d_letters2_60, m_nameSize2_61, m_place2_62, m_token2_63, m_whole2_64, r_65, hq_73, (Or.inl ⟨h_76, ⟨z_79, ez_79, ⟨b_82, hj_85, ⟨m_at2_91, m_end2_92, m_failed2_93, m_fault2_94, d_letters2_95, m_nameSize2_96, m_place2_97, m_token2_98, m_whole2_99, r_100, hq_108, (Or.inl ⟨h_111, ⟨z_114, ez_114, ⟨b_117, hj_120, ⟨m_at2_126, m_end2_127, m_failed2_128, m_fault2_129, d_letters2_130, m_nameSize2_131, m_place2_132, m_token2_133, m_whole2_134, r_135, hq_143, (Or.inr ⟨h_146, ⟨m_at2_484, m_end2_485, m_failed2_486, m_fault2_487, d_fresh2_488, d_letters2_489, m_nameSize2_490, m_place2_491, m_token2_492, m_whole2_493, hq_501, ⟨rfl, rfl, rfl, rfl, rfl, rfl, rfl, rfl, rfl, rfl⟩⟩⟩)⟩⟩⟩⟩)⟩⟩⟩⟩)⟩⟩⟩⟩)⟩⟩⟩⟩)⟩, hk_502, rfl⟩
              · skip
                have hc_503 := hk_109.resolve_left h_111
                have iv_504 : IV m_token2_63 2 2 := iv_meet (iv_any m_token2_63) hc_503 (zle_o rfl) (zle_o rfl)
                have hc_505 := hk_75 (iv_eq iv_504 iq_2_2_2)
                have iv_506 : IV m_nameSize2_61 0 8 := iv_meet iv_68 hc_505 (zle_o rfl) (zle_o rfl)
                have iv_507 : IV r_100 1 1 := iv_neL h_111 iv_104 iq_0_0_0 (zle_e rfl)
                refine k_aload_n X dX11_readLine_k3.1.2.1.1 0 rfl ?_
                refine k_callVV (n := 0) (As := []) (st := []) X [(cO11_i1r1i10r1i2r5i2r12i3r4i2 h0 m_thrown a_tape m_taped m_size m_at2_91 m_end2_92 m_token2_98 m_whole2_99 m_nameSize2_96 m_fault2_94 m_place2_97 m_trouble a_letters m_failed2_93 m_hasHouse a_r a_fresh a_st a_undone a_kept m_undos m_images a_from a_begin a_motor a_change a_startFrame a_changeFrame a_lostAt a_blackAt a_slips a_leftArc a_died a_arcs m_bestSum m_nearest m_nearestTown a_there a_backAt a_sorted a_parts m_seed1 m_darkNow), (cAI g a_tape 900 d_tape), (cAI g a_letters 8 d_letters2_95), (cAI g a_fresh 311 d_fresh)] [] [0, 1, 2, 3] [] (m_markLineX l g h0 m_thrown a_tape m_taped m_size m_at2_91 m_end2_92 m_token2_98 m_whole2_99 m_nameSize2_96 m_fault2_94 m_place2_97 m_trouble a_letters m_failed2_93 m_hasHouse a_r a_fresh a_st a_undone a_kept m_undos m_images a_from a_begin a_motor a_change a_startFrame a_changeFrame a_lostAt a_blackAt a_slips a_leftArc a_died a_arcs m_bestSum m_nearest m_nearestTown a_there a_backAt a_sorted a_parts m_seed1 m_darkNow d_tape d_letters2_95 d_fresh (iv_w hv_m_size (zle_e rfl) (zle_e rfl)) (iv_w iv_101 (zle_e rfl) (zle_e rfl)) (iv_w iv_103 (zle_e rfl) (zle_e rfl)) (iv_w iv_102 (zle_e rfl) (zle_e rfl)) hp_d_fresh hr_0 (by rcases hq_105 with q | q | q; exact absurd q h_111; exact Or.inl q; exact Or.inr (by rcases hb_83 with z | z; exact absurd z q; omega)) hk_110) dX11_readLine_k3.1.2.1.2 mw567 mw568 mw569 mw5 mw570 rfl 11 rfl rfl 0 _ rfl yk_yX11_markLine_0 rfl (Nat.le_of_ble_eq_true rfl) (Nat.le_of_ble_eq_true rfl) (Nat.le_of_ble_eq_true rfl) (Nat.le_of_ble_eq_true rfl) (Nat.le_of_ble_eq_true rfl) rfl rfl (vnd_e rfl) rfl (vnd_e rfl) (dsj_e rfl) ?_
                intro w zq
                refine exE10 zq ?_
                clear zq
                intro m_at2_508 m_end2_509 m_failed2_510 m_fault2_511 d_fresh2_512 d_letters2_513 m_nameSize2_514 m_place2_515 m_token2_516 m_whole2_517 iv_519 zq
                refine exA7 zq ?_
                clear zq
                intro iv_520 iv_521 hp_522 hq_523 hq_524 hq_525 hk_526 zq
                subst zq
                refine k_ws [(cO11_i1r1i10r1i2r5i2r12i3r4i2 h0 m_thrown a_tape m_taped m_size m_at2_508 m_end2_509 m_token2_516 m_whole2_517 m_nameSize2_514 m_fault2_511 m_place2_515 m_trouble a_letters m_failed2_510 m_hasHouse a_r a_fresh a_st a_undone a_kept m_undos m_images a_from a_begin a_motor a_change a_startFrame a_changeFrame a_lostAt a_blackAt a_slips a_leftArc a_died a_arcs m_bestSum m_nearest m_nearestTown a_there a_backAt a_sorted a_parts m_seed1 m_darkNow), (cAI g a_tape 900 d_tape), (cAI g a_letters 8 d_letters2_513), (cAI g a_fresh 311 d_fresh2_512)] rfl ?_
                refine k_goto 333 X dX11_readLine_k3.1.2.2.1 (jp_e rfl) ?_
                exact k_vret X hr dX11_readLine_k10.2 (Nat.le_of_ble_eq_true rfl) (Nat.le_of_ble_eq_true rfl) [0, 1, 2, 3] (vnd_e rfl) rfl rfl ⟨m_at2_508, m_end2_509, m_failed2_510, m_fault2_511, d_fresh2_512, d_letters2_513, m_nameSize2_514, m_place2_515, m_token2_516, m_whole2_517, (iv_w iv_519 (zle_e rfl) (zle_e rfl)), (iv_w iv_520 (zle_e rfl) (zle_e rfl)), (iv_w iv_521 (zle_e rfl) (zle_e rfl)), hp_522, (by omega), (by omega), hq_524, ⟨r_2, hq_4, (Or.inl ⟨h_6, ⟨z_9, ez_9, ⟨b_12, hj_15, ⟨m_at2_21, m_end2_22, m_failed2_23, m_fault2_24, d_letters2_25, m_nameSize2_26, m_place2_27, m_token2_28, m_whole2_29, r_30, hq_38, (Or.inl ⟨h_41, ⟨z_44, ez_44, ⟨b_47, hj_50, ⟨m_at2_56, m_end2_57, m_failed2_58, m_fault2_59, d_letters2_60, m_nameSize2_61, m_place2_62, m_token2_63, m_whole2_64, r_65, hq_73, (Or.inl ⟨h_76, ⟨z_79, ez_79, ⟨b_82, hj_85, ⟨m_at2_91, m_end2_92, m_failed2_93, m_fault2_94, d_letters2_95, m_nameSize2_96, m_place2_97, m_token2_98, m_whole2_99, r_100, hq_108, (Or.inr ⟨h_111, ⟨m_at2_508, m_end2_509, m_failed2_510, m_fault2_511, d_fresh2_512, d_letters2_513, m_nameSize2_514, m_place2_515, m_token2_516, m_whole2_517, hq_525, ⟨rfl, rfl, rfl, rfl, rfl, rfl, rfl, rfl, rfl, rfl⟩⟩⟩)⟩⟩⟩⟩)⟩⟩⟩⟩)⟩⟩⟩⟩)⟩, hk_526, rfl⟩
          · skip
            have hc_527 := hk_74.resolve_left h_76
            have iv_528 : IV m_token2_28 2 2 := iv_meet (iv_any m_token2_28) hc_527 (zle_o rfl) (zle_o rfl)
            have hc_529 := hk_40 (iv_eq iv_528 iq_2_2_2)
            have iv_530 : IV m_nameSize2_26 0 8 := iv_meet iv_33 hc_529 (zle_o rfl) (zle_o rfl)
            have iv_531 : IV r_65 1 1 := iv_neL h_76 iv_69 iq_0_0_0 (zle_e rfl)
            refine k_aload_n X dX11_readLine_k2.1.2.1.1 0 rfl ?_
            refine k_callVV (n := 0) (As := []) (st := []) X [(cO11_i1r1i10r1i2r5i2r12i3r4i2 h0 m_thrown a_tape m_taped m_size m_at2_56 m_end2_57 m_token2_63 m_whole2_64 m_nameSize2_61 m_fault2_59 m_place2_62 m_trouble a_letters m_failed2_58 m_hasHouse a_r a_fresh a_st a_undone a_kept m_undos m_images a_from a_begin a_motor a_change a_startFrame a_changeFrame a_lostAt a_blackAt a_slips a_leftArc a_died a_arcs m_bestSum m_nearest m_nearestTown a_there a_backAt a_sorted a_parts m_seed1 m_darkNow), (cAI g a_tape 900 d_tape), (cAI g a_letters 8 d_letters2_60), (cAI g a_fresh 311 d_fresh)] [] [0, 1, 2, 3] [] (m_townLineX l g h0 m_thrown a_tape m_taped m_size m_at2_56 m_end2_57 m_token2_63 m_whole2_64 m_nameSize2_61 m_fault2_59 m_place2_62 m_trouble a_letters m_failed2_58 m_hasHouse a_r a_fresh a_st a_undone a_kept m_undos m_images a_from a_begin a_motor a_change a_startFrame a_changeFrame a_lostAt a_blackAt a_slips a_leftArc a_died a_arcs m_bestSum m_nearest m_nearestTown a_there a_backAt a_sorted a_parts m_seed1 m_darkNow d_tape d_letters2_60 d_fresh (iv_w hv_m_size (zle_e rfl) (zle_e rfl)) (iv_w iv_66 (zle_e rfl) (zle_e rfl)) (iv_w iv_68 (zle_e rfl) (zle_e rfl)) (iv_w iv_67 (zle_e rfl) (zle_e rfl)) hp_d_fresh hr_0 (by rcases hq_70 with q | q | q; exact absurd q h_76; exact Or.inl q; exact Or.inr (by rcases hb_48 with z | z; exact absurd z q; omega)) hk_75) dX11_readLine_k2.1.2.1.2 mw563 mw564 mw565 mw5 mw566 rfl 11 rfl rfl 0 _ rfl yk_yX11_townLine_0 rfl (Nat.le_of_ble_eq_true rfl) (Nat.le_of_ble_eq_true rfl) (Nat.le_of_ble_eq_true rfl) (Nat.le_of_ble_eq_true rfl) (Nat.le_of_ble_eq_true rfl) rfl rfl (vnd_e rfl) rfl (vnd_e rfl) (dsj_e rfl) ?_
            intro w zq
            refine exE10 zq ?_
            clear zq
            intro m_at2_532 m_end2_533 m_failed2_534 m_fault2_535 d_fresh2_536 d_letters2_537 m_nameSize2_538 m_place2_539 m_token2_540 m_whole2_541 iv_543 zq
            refine exA7 zq ?_
            clear zq
            intro iv_544 iv_545 hp_546 hq_547 hq_548 hq_549 hk_550 zq
            subst zq
            refine k_ws [(cO11_i1r1i10r1i2r5i2r12i3r4i2 h0 m_thrown a_tape m_taped m_size m_at2_532 m_end2_533 m_token2_540 m_whole2_541 m_nameSize2_538 m_fault2_535 m_place2_539 m_trouble a_letters m_failed2_534 m_hasHouse a_r a_fresh a_st a_undone a_kept m_undos m_images a_from a_begin a_motor a_change a_startFrame a_changeFrame a_lostAt a_blackAt a_slips a_leftArc a_died a_arcs m_bestSum m_nearest m_nearestTown a_there a_backAt a_sorted a_parts m_seed1 m_darkNow), (cAI g a_tape 900 d_tape), (cAI g a_letters 8 d_letters2_537), (cAI g a_fresh 311 d_fresh2_536)] rfl ?_
            refine k_goto 333 X dX11_readLine_k2.1.2.2.1 (jp_e rfl) ?_
            exact k_vret X hr dX11_readLine_k10.2 (Nat.le_of_ble_eq_true rfl) (Nat.le_of_ble_eq_true rfl) [0, 1, 2, 3] (vnd_e rfl) rfl rfl ⟨m_at2_532, m_end2_533, m_failed2_534, m_fault2_535, d_fresh2_536, d_letters2_537, m_nameSize2_538, m_place2_539, m_token2_540, m_whole2_541, (iv_w iv_543 (zle_e rfl) (zle_e rfl)), (iv_w iv_544 (zle_e rfl) (zle_e rfl)), (iv_w iv_545 (zle_e rfl) (zle_e rfl)), hp_546, (by omega), (by omega), hq_548, ⟨r_2, hq_4, (Or.inl ⟨h_6, ⟨z_9, ez_9, ⟨b_12, hj_15, ⟨m_at2_21, m_end2_22, m_failed2_23, m_fault2_24, d_letters2_25, m_nameSize2_26, m_place2_27, m_token2_28, m_whole2_29, r_30, hq_38, (Or.inl ⟨h_41, ⟨z_44, ez_44, ⟨b_47, hj_50, ⟨m_at2_56, m_end2_57, m_failed2_58, m_fault2_59, d_letters2_60, m_nameSize2_61, m_place2_62, m_token2_63, m_whole2_64, r_65, hq_73, (Or.inr ⟨h_76, ⟨m_at2_532, m_end2_533, m_failed2_534, m_fault2_535, d_fresh2_536, d_letters2_537, m_nameSize2_538, m_place2_539, m_token2_540, m_whole2_541, hq_549, ⟨rfl, rfl, rfl, rfl, rfl, rfl, rfl, rfl, rfl, rfl⟩⟩⟩)⟩⟩⟩⟩)⟩⟩⟩⟩)⟩, hk_550, rfl⟩
      · skip
        have hc_551 := hk_39.resolve_left h_41
        have iv_552 : IV m_token 2 2 := iv_meet (iv_any m_token) hc_551 (zle_o rfl) (zle_o rfl)
        have hc_553 := hc_0 (iv_eq iv_552 iq_2_2_2)
        have iv_554 : IV m_nameSize 0 8 := iv_meet hv_m_nameSize hc_553 (zle_o rfl) (zle_o rfl)
        have iv_555 : IV r_30 1 1 := iv_neL h_41 iv_34 iq_0_0_0 (zle_e rfl)
        refine k_aload_n X dX11_readLine_k1.1.2.1.1 0 rfl ?_
        refine k_callVV (n := 0) (As := []) (st := []) X [(cO11_i1r1i10r1i2r5i2r12i3r4i2 h0 m_thrown a_tape m_taped m_size m_at2_21 m_end2_22 m_token2_28 m_whole2_29 m_nameSize2_26 m_fault2_24 m_place2_27 m_trouble a_letters m_failed2_23 m_hasHouse a_r a_fresh a_st a_undone a_kept m_undos m_images a_from a_begin a_motor a_change a_startFrame a_changeFrame a_lostAt a_blackAt a_slips a_leftArc a_died a_arcs m_bestSum m_nearest m_nearestTown a_there a_backAt a_sorted a_parts m_seed1 m_darkNow), (cAI g a_tape 900 d_tape), (cAI g a_letters 8 d_letters2_25), (cAI g a_fresh 311 d_fresh)] [] [0, 1, 2, 3] [] (m_reelLineX l g h0 m_thrown a_tape m_taped m_size m_at2_21 m_end2_22 m_token2_28 m_whole2_29 m_nameSize2_26 m_fault2_24 m_place2_27 m_trouble a_letters m_failed2_23 m_hasHouse a_r a_fresh a_st a_undone a_kept m_undos m_images a_from a_begin a_motor a_change a_startFrame a_changeFrame a_lostAt a_blackAt a_slips a_leftArc a_died a_arcs m_bestSum m_nearest m_nearestTown a_there a_backAt a_sorted a_parts m_seed1 m_darkNow d_tape d_letters2_25 d_fresh (iv_w hv_m_size (zle_e rfl) (zle_e rfl)) (iv_w iv_31 (zle_e rfl) (zle_e rfl)) (iv_w iv_33 (zle_e rfl) (zle_e rfl)) (iv_w iv_32 (zle_e rfl) (zle_e rfl)) hp_d_fresh hr_0 (by rcases hq_35 with q | q | q; exact absurd q h_41; exact Or.inl q; exact Or.inr (by rcases hb_13 with z | z; exact absurd z q; omega)) hk_40) dX11_readLine_k1.1.2.1.2 mw547 mw548 mw549 mw5 mw550 rfl 11 rfl rfl 0 _ rfl yk_yX11_reelLine_0 rfl (Nat.le_of_ble_eq_true rfl) (Nat.le_of_ble_eq_true rfl) (Nat.le_of_ble_eq_true rfl) (Nat.le_of_ble_eq_true rfl) (Nat.le_of_ble_eq_true rfl) rfl rfl (vnd_e rfl) rfl (vnd_e rfl) (dsj_e rfl) ?_
        intro w zq
        refine exE10 zq ?_
        clear zq
        intro m_at2_556 m_end2_557 m_failed2_558 m_fault2_559 d_fresh2_560 d_letters2_561 m_nameSize2_562 m_place2_563 m_token2_564 m_whole2_565 iv_567 zq
        refine exA7 zq ?_
        clear zq
        intro iv_568 iv_569 hp_570 hq_571 hq_572 hq_573 hk_574 zq
        subst zq
        refine k_ws [(cO11_i1r1i10r1i2r5i2r12i3r4i2 h0 m_thrown a_tape m_taped m_size m_at2_556 m_end2_557 m_token2_564 m_whole2_565 m_nameSize2_562 m_fault2_559 m_place2_563 m_trouble a_letters m_failed2_558 m_hasHouse a_r a_fresh a_st a_undone a_kept m_undos m_images a_from a_begin a_motor a_change a_startFrame a_changeFrame a_lostAt a_blackAt a_slips a_leftArc a_died a_arcs m_bestSum m_nearest m_nearestTown a_there a_backAt a_sorted a_parts m_seed1 m_darkNow), (cAI g a_tape 900 d_tape), (cAI g a_letters 8 d_letters2_561), (cAI g a_fresh 311 d_fresh2_560)] rfl ?_
        refine k_goto 333 X dX11_readLine_k1.1.2.2.1 (jp_e rfl) ?_
        exact k_vret X hr dX11_readLine_k10.2 (Nat.le_of_ble_eq_true rfl) (Nat.le_of_ble_eq_true rfl) [0, 1, 2, 3] (vnd_e rfl) rfl rfl ⟨m_at2_556, m_end2_557, m_failed2_558, m_fault2_559, d_fresh2_560, d_letters2_561, m_nameSize2_562, m_place2_563, m_token2_564, m_whole2_565, (iv_w iv_567 (zle_e rfl) (zle_e rfl)), (iv_w iv_568 (zle_e rfl) (zle_e rfl)), (iv_w iv_569 (zle_e rfl) (zle_e rfl)), hp_570, (by omega), (by omega), hq_572, ⟨r_2, hq_4, (Or.inl ⟨h_6, ⟨z_9, ez_9, ⟨b_12, hj_15, ⟨m_at2_21, m_end2_22, m_failed2_23, m_fault2_24, d_letters2_25, m_nameSize2_26, m_place2_27, m_token2_28, m_whole2_29, r_30, hq_38, (Or.inr ⟨h_41, ⟨m_at2_556, m_end2_557, m_failed2_558, m_fault2_559, d_fresh2_560, d_letters2_561, m_nameSize2_562, m_place2_563, m_token2_564, m_whole2_565, hq_573, ⟨rfl, rfl, rfl, rfl, rfl, rfl, rfl, rfl, rfl, rfl⟩⟩⟩)⟩⟩⟩⟩)⟩, hk_574, rfl⟩
  · skip
    have hc_575 := hk_5.resolve_left h_6
    have iv_576 : IV m_token 2 2 := iv_meet (iv_any m_token) hc_575.1 (zle_o rfl) (zle_o rfl)
    have hc_577 := hc_0 (iv_eq iv_576 iq_2_2_2)
    have iv_578 : IV m_nameSize 0 8 := iv_meet hv_m_nameSize hc_577 (zle_o rfl) (zle_o rfl)
    have iv_579 : IV m_failed 0 0 := iv_meet hv_m_failed hc_575.2 (zle_o rfl) (zle_o rfl)
    have iv_580 : IV r_2 1 1 := iv_neL h_6 iv_3 iq_0_0_0 (zle_e rfl)
    refine k_aload_n X dX11_readLine_k0.1.2.1.1 0 rfl ?_
    refine k_callVV (n := 0) (As := []) (st := []) X [(cO11_i1r1i10r1i2r5i2r12i3r4i2 h0 m_thrown a_tape m_taped m_size m_at m_end m_token m_whole m_nameSize m_fault m_place m_trouble a_letters m_failed m_hasHouse a_r a_fresh a_st a_undone a_kept m_undos m_images a_from a_begin a_motor a_change a_startFrame a_changeFrame a_lostAt a_blackAt a_slips a_leftArc a_died a_arcs m_bestSum m_nearest m_nearestTown a_there a_backAt a_sorted a_parts m_seed1 m_darkNow), (cAI g a_tape 900 d_tape), (cAI g a_letters 8 d_letters), (cAI g a_fresh 311 d_fresh)] [] [2, 0, 3, 1] [] (m_houseLineX l g h0 m_thrown a_tape m_taped m_size m_at m_end m_token m_whole m_nameSize m_fault m_place m_trouble a_letters m_failed m_hasHouse a_r a_fresh a_st a_undone a_kept m_undos m_images a_from a_begin a_motor a_change a_startFrame a_changeFrame a_lostAt a_blackAt a_slips a_leftArc a_died a_arcs m_bestSum m_nearest m_nearestTown a_there a_backAt a_sorted a_parts m_seed1 m_darkNow d_tape d_letters d_fresh (iv_w hv_m_size (zle_e rfl) (zle_e rfl)) (iv_w hv_m_end (zle_e rfl) (zle_e rfl)) (iv_w iv_578 (zle_e rfl) (zle_e rfl)) (iv_w iv_579 (zle_e rfl) (zle_e rfl)) hp_d_fresh hr_0 (fun _ => (iv_w iv_578 (zle_e rfl) (zle_e rfl)))) dX11_readLine_k0.1.2.1.2 mw515 mw516 mw517 mw5 mw518 rfl 11 rfl rfl 0 _ rfl yk_yX11_houseLine_0 rfl (Nat.le_of_ble_eq_true rfl) (Nat.le_of_ble_eq_true rfl) (Nat.le_of_ble_eq_true rfl) (Nat.le_of_ble_eq_true rfl) (Nat.le_of_ble_eq_true rfl) rfl rfl (vnd_e rfl) rfl (vnd_e rfl) (dsj_e rfl) ?_
    intro w zq
    refine exE10 zq ?_
    clear zq
    intro m_at2_581 m_end2_582 m_failed2_583 m_fault2_584 d_fresh2_585 d_letters2_586 m_nameSize2_587 m_place2_588 m_token2_589 m_whole2_590 iv_592 zq
    refine exA7 zq ?_
    clear zq
    intro iv_593 iv_594 hp_595 hq_596 hq_597 hq_598 hk_599 zq
    subst zq
    refine k_ws [(cO11_i1r1i10r1i2r5i2r12i3r4i2 h0 m_thrown a_tape m_taped m_size m_at2_581 m_end2_582 m_token2_589 m_whole2_590 m_nameSize2_587 m_fault2_584 m_place2_588 m_trouble a_letters m_failed2_583 m_hasHouse a_r a_fresh a_st a_undone a_kept m_undos m_images a_from a_begin a_motor a_change a_startFrame a_changeFrame a_lostAt a_blackAt a_slips a_leftArc a_died a_arcs m_bestSum m_nearest m_nearestTown a_there a_backAt a_sorted a_parts m_seed1 m_darkNow), (cAI g a_tape 900 d_tape), (cAI g a_letters 8 d_letters2_586), (cAI g a_fresh 311 d_fresh2_585)] rfl ?_
    refine k_goto 333 X dX11_readLine_k0.1.2.2.1 (jp_e rfl) ?_
    exact k_vret X hr dX11_readLine_k10.2 (Nat.le_of_ble_eq_true rfl) (Nat.le_of_ble_eq_true rfl) [0, 1, 2, 3] (vnd_e rfl) rfl rfl ⟨m_at2_581, m_end2_582, m_failed2_583, m_fault2_584, d_fresh2_585, d_letters2_586, m_nameSize2_587, m_place2_588, m_token2_589, m_whole2_590, (iv_w iv_592 (zle_e rfl) (zle_e rfl)), (iv_w iv_593 (zle_e rfl) (zle_e rfl)), (iv_w iv_594 (zle_e rfl) (zle_e rfl)), hp_595, (by omega), (by omega), hq_597, ⟨r_2, hq_4, (Or.inr ⟨h_6, ⟨m_at2_581, m_end2_582, m_failed2_583, m_fault2_584, d_fresh2_585, d_letters2_586, m_nameSize2_587, m_place2_588, m_token2_589, m_whole2_590, hq_598, ⟨rfl, rfl, rfl, rfl, rfl, rfl, rfl, rfl, rfl, rfl⟩⟩⟩)⟩, hk_599, rfl⟩


set_option maxHeartbeats 4000000 in
set_option maxRecDepth 100000 in
theorem m_copyRX (l : Launch) (g : Gx) (fa : Nat) (ta : Nat) (f1 : Nat → Int32) (f2 : Nat → Int32) (hp_f1 : RInv f1) : cV l g yX11_copy cX11_copy 6 0 0 0 0 [.ref fa, .int 0, .ref ta, .int 0, .int 311] [(cAI g fa 311 f1), (cAI g ta 311 f2)] (fun w => ∃ (f3 : Nat → Int32), (RInv f3) ∧ (TRI f1 → TRI f3) ∧ (R_m_copyRX f1 f2 f3) ∧ w = [(cAI g fa 311 f1), (cAI g ta 311 f3)]) := by
  refine cV.of (by decide) (Nat.le_of_ble_eq_true rfl) ?_
  intro p e s m args below meth c A X hr hi
  refine k_lveq [(0, .ref fa), (1, .int 0), (2, .ref ta), (3, .int 0), (4, .int 311)] rfl ?_
  refine k_iconst (v := 0) X dX11_copy_k0.1.1.1.1 ic_0 ?_
  refine k_istore [(5, .int 0), (0, .ref fa), (1, .int 0), (2, .ref ta), (3, .int 0), (4, .int 311)] X dX11_copy_k0.1.1.1.2 (nlt_e rfl) rfl ?_
  refine (fun hL : ∀ (nn_5 : Nat) (uf_1 : Nat → Int32) (u_2 : Int32), (311 - u_2.toInt).toNat = nn_5 → (IV u_2 0 900) → (∀ i : Nat, i < u_2.toInt.toNat → uf_1 i = f1 i) → (∀ (f3 : Nat → Int32), (∃ n_0 : Nat, R_m_copyRX_L0 f1 (fun (uf_1 : Nat → Int32) => f3 = uf_1) n_0 uf_1 u_2) → R_m_copyRX f1 f2 f3) → Wk p l e _ s m args below meth c _ A g _ _ _ [(cAI g fa 311 f1), (cAI g ta 311 uf_1)] [(5, .int u_2), (0, .ref fa), (1, .int 0), (2, .ref ta), (3, .int 0), (4, .int 311)] 3 [] => hL _ f2 0 rfl (iv_w iq_0_0_0 (zle_e rfl) (zle_e rfl)) (cp_0) (fun f3 h => h)) ?_
  refine fun nn_5 => Nat.strongRecOn nn_5 (fun nn_5 ih_7 => ?_)
  intro uf_1 u_2 hm_6 hv_3 hx_4 KH_0
  refine k_iload X dX11_copy_k0.1.1.2.1 0 rfl ?_
  refine k_iload X dX11_copy_k0.1.1.2.2 5 rfl ?_
  refine k_ic_ge 28 X dX11_copy_k0.1.2.1.1 (jp_e rfl) (fun h_8 => ?_) (fun h_8 => ?_)
  · skip
    have j_9 : 311 ≤ u_2.toInt := iv_le h_8
    have iv_10 : IV u_2 311 900 := iv_leR (iv_le h_8) iq_311_311_311 hv_3 (zle_e rfl)
    exact k_vret X hr dX11_copy_k1.2 (Nat.le_of_ble_eq_true rfl) (Nat.le_of_ble_eq_true rfl) [0, 1] (vnd_e rfl) rfl rfl ⟨uf_1, (rinv_cp hp_f1 (by assumption) (by omega)), (fun hT => tri_cp hT hp_f1 (by assumption) (by omega)), (KH_0 _ ⟨0 + 1, (Or.inl ⟨h_8, rfl⟩)⟩), rfl⟩
  · skip
    have j_11 : u_2.toInt < 311 := iv_nle h_8
    have iv_12 : IV u_2 0 310 := iv_ltL (iv_nle h_8) hv_3 iq_311_311_311 (zle_e rfl)
    refine k_aload_n X dX11_copy_k0.1.2.1.2 3 rfl ?_
    refine k_iload_n X dX11_copy_k0.1.2.2.1 4 rfl ?_
    refine k_iload X dX11_copy_k0.1.2.2.2 0 rfl ?_
    refine k_iadd X dX11_copy_k0.2.1.1.1 ?_
    refine k_nm (fun z_13 ez_13 => ?_)
    have i_14 : z_13.toInt = 0 + u_2.toInt := in_add ez_13 iq_0_0_0 iv_12 (zle_e rfl) (zle_e rfl)
    have iv_15 : IV z_13 0 310 := iz2 i_14 iv_12 (zle_e rfl) (zle_e rfl)
    refine k_aload_n X dX11_copy_k0.2.1.1.2 1 rfl ?_
    refine k_iload_n X dX11_copy_k0.2.1.2.1 2 rfl ?_
    refine k_iload X dX11_copy_k0.2.1.2.2 0 rfl ?_
    refine k_iadd X dX11_copy_k0.2.2.1.1 ?_
    refine k_to z_13 ez_13.symm ?_
    refine k_iald X dX11_copy_k0.2.2.1.2 0 rfl (iv_in iv_15 (zle_e rfl) (zle_l rfl)) ?_
    refine k_nm (fun z_16 ez_16 => ?_)
    refine k_iast [(cAI g fa 311 f1), (cAI g ta 311 (upd uf_1 (z_13 : Int32).toNatClampNeg z_16))] X dX11_copy_k0.2.2.2.1 1 rfl (iv_in iv_15 (zle_e rfl) (zle_l rfl)) rfl ?_
    obtain ⟨z_18, ez_18⟩ : ∃ y : Int32, u_2 + Int32.ofInt 1 = y := ⟨_, rfl⟩
    refine k_iinc z_18 [(5, .int z_18), (0, .ref fa), (1, .int 0), (2, .ref ta), (3, .int 0), (4, .int 311)] 0 X dX11_copy_k0.2.2.2.2 rfl ez_18 (nlt_e rfl) rfl ?_
    have i_19 : z_18.toInt = u_2.toInt + 1 := in_inc ez_18 (oin_e rfl) iv_12 (zle_e rfl) (zle_e rfl)
    have iv_20 : IV z_18 1 311 := iz1 i_19 iv_12 (zle_e rfl) (zle_e rfl)
    refine k_goto 3 X dX11_copy_k1.1 (jp_e rfl) ?_
    exact ih_7 _ (by omega) ((upd uf_1 (z_13 : Int32).toNatClampNeg z_16)) z_18 rfl (iv_w iv_20 (zle_e rfl) (zle_e rfl)) (cp_step (by assumption) (by assumption) (by assumption) (by assumption) (by have := (by assumption : IV _ _ _); omega)) (fun f3 h => h.elim (fun n_0 q => (KH_0 _ ⟨n_0 + 1, (Or.inr ⟨h_8, ⟨z_13, ez_13, ⟨z_16, ez_16, ⟨z_18, ez_18, q⟩⟩⟩⟩)⟩)))


set_option maxHeartbeats 4000000 in
set_option maxRecDepth 100000 in
theorem m_houseX (l : Launch) (g : Gx) (h0 : Nat) (p0 : Int32) (m_thrown : Int32) (a_tape : Nat) (m_taped : Int32) (m_size : Int32) (m_at : Int32) (m_end : Int32) (m_token : Int32) (m_whole : Int32) (m_nameSize : Int32) (m_fault : Int32) (m_place : Int32) (m_trouble : Int32) (a_letters : Nat) (m_failed : Int32) (m_hasHouse : Int32) (a_r : Nat) (a_fresh : Nat) (a_st : Nat) (a_undone : Nat) (a_kept : Nat) (m_undos : Int32) (m_images : Int32) (a_from : Nat) (a_begin : Nat) (a_motor : Nat) (a_change : Nat) (a_startFrame : Nat) (a_changeFrame : Nat) (a_lostAt : Nat) (a_blackAt : Nat) (a_slips : Nat) (a_leftArc : Nat) (a_died : Nat) (a_arcs : Nat) (m_bestSum : Int32) (m_nearest : Int32) (m_nearestTown : Int32) (a_there : Nat) (a_backAt : Nat) (a_sorted : Nat) (a_parts : Nat) (m_seed1 : Int32) (m_darkNow : Int32) (d_tape : Nat → Int32) (d_letters : Nat → Int32) (d_r : Nat → Int32) (d_fresh : Nat → Int32) (d_st : Nat → Int32) (hv_m_size : IV m_size 0 900) (hv_m_end : IV m_end 0 900) (hv_m_nameSize : IV m_nameSize 0 900) (hv_m_failed : IV m_failed 0 1) (hv_m_hasHouse : IV m_hasHouse 0 1) (hv_m_undos : IV m_undos 0 12) (hv_m_images : IV m_images 0 3) (hv_m_taped : IV m_taped 0 900) (hp_d_r : RInv d_r) (hp_d_fresh : RInv d_fresh) (hr_0 : TRI d_r) : cI l g yX11_house cX11_house 3 (some .int) 10 218 0 0 [.ref h0, .int p0] [(cO11_i1r1i10r1i2r5i2r12i3r4i2 h0 m_thrown a_tape m_taped m_size m_at m_end m_token m_whole m_nameSize m_fault m_place m_trouble a_letters m_failed m_hasHouse a_r a_fresh a_st a_undone a_kept m_undos m_images a_from a_begin a_motor a_change a_startFrame a_changeFrame a_lostAt a_blackAt a_slips a_leftArc a_died a_arcs m_bestSum m_nearest m_nearestTown a_there a_backAt a_sorted a_parts m_seed1 m_darkNow), (cAI g a_tape 900 d_tape), (cAI g a_letters 8 d_letters), (cAI g a_r 311 d_r), (cAI g a_fresh 311 d_fresh), (cAI g a_st 44 d_st)] (fun r w => ∃ (m_at2 : Int32) (m_end2 : Int32) (m_failed2 : Int32) (m_fault2 : Int32) (d_fresh2 : Nat → Int32) (m_hasHouse2 : Int32) (m_images2 : Int32) (d_letters2 : Nat → Int32) (m_nameSize2 : Int32) (m_place2 : Int32) (d_r2 : Nat → Int32) (m_size2 : Int32) (d_st2 : Nat → Int32) (m_taped2 : Int32) (m_thrown2 : Int32) (m_token2 : Int32) (m_trouble2 : Int32) (m_undos2 : Int32) (m_whole2 : Int32), IV m_end2 0 900 ∧ IV m_failed2 0 1 ∧ IV m_hasHouse2 0 1 ∧ IV m_images2 0 3 ∧ IV m_nameSize2 0 900 ∧ IV m_size2 0 900 ∧ IV m_taped2 0 900 ∧ IV m_undos2 0 12 ∧ RInv d_r2 ∧ RInv d_fresh2 ∧ ((p0.toInt < 0 ∨ m_taped.toInt < p0.toInt → m_taped2 = m_taped) ∧ (0 ≤ p0.toInt ∧ p0.toInt ≤ m_taped.toInt → m_taped2 = 0)) ∧ (TRI d_r2) ∧ (R_m_houseX p0 m_taped m_size m_at m_end m_token m_whole m_nameSize m_fault m_place m_failed m_hasHouse m_undos m_images d_tape d_letters d_r d_fresh d_st m_at2 m_end2 m_failed2 m_fault2 d_fresh2 m_hasHouse2 m_images2 d_letters2 m_nameSize2 m_place2 d_r2 m_size2 d_st2 m_taped2 m_thrown2 m_token2 m_trouble2 m_undos2 m_whole2 r) ∧ w = [(cO11_i1r1i10r1i2r5i2r12i3r4i2 h0 m_thrown2 a_tape m_taped2 m_size2 m_at2 m_end2 m_token2 m_whole2 m_nameSize2 m_fault2 m_place2 m_trouble2 a_letters m_failed2 m_hasHouse2 a_r a_fresh a_st a_undone a_kept m_undos2 m_images2 a_from a_begin a_motor a_change a_startFrame a_changeFrame a_lostAt a_blackAt a_slips a_leftArc a_died a_arcs m_bestSum m_nearest m_nearestTown a_there a_backAt a_sorted a_parts m_seed1 m_darkNow), (cAI g a_tape 900 d_tape), (cAI g a_letters 8 d_letters2), (cAI g a_r 311 d_r2), (cAI g a_fresh 311 d_fresh2), (cAI g a_st 44 d_st2)]) := by
  refine cI.of (by decide) (Nat.le_of_ble_eq_true rfl) ?_
  intro p e s m args below meth c A X hr hi
  refine k_lveq [(0, .ref h0), (1, .int p0)] rfl ?_
  refine k_aload_n X dX11_house_k0.1.1.1.1 0 rfl ?_
  refine k_callVV (n := 0) (As := []) (st := []) X [(cO11_i1r1i10r1i2r5i2r12i3r4i2 h0 m_thrown a_tape m_taped m_size m_at m_end m_token m_whole m_nameSize m_fault m_place m_trouble a_letters m_failed m_hasHouse a_r a_fresh a_st a_undone a_kept m_undos m_images a_from a_begin a_motor a_change a_startFrame a_changeFrame a_lostAt a_blackAt a_slips a_leftArc a_died a_arcs m_bestSum m_nearest m_nearestTown a_there a_backAt a_sorted a_parts m_seed1 m_darkNow)] [(cAI g a_tape 900 d_tape), (cAI g a_letters 8 d_letters), (cAI g a_r 311 d_r), (cAI g a_fresh 311 d_fresh), (cAI g a_st 44 d_st)] [0] [1, 2, 3, 4, 5] (m_goodX l g h0 m_thrown a_tape m_taped m_size m_at m_end m_token m_whole m_nameSize m_fault m_place m_trouble a_letters m_failed m_hasHouse a_r a_fresh a_st a_undone a_kept m_undos m_images a_from a_begin a_motor a_change a_startFrame a_changeFrame a_lostAt a_blackAt a_slips a_leftArc a_died a_arcs m_bestSum m_nearest m_nearestTown a_there a_backAt a_sorted a_parts m_seed1 m_darkNow) dX11_house_k0.1.1.1.2 mw477 mw478 mw479 mw5 mw480 rfl 11 rfl rfl 0 _ rfl yk_yX11_good_0 rfl (Nat.le_of_ble_eq_true rfl) (Nat.le_of_ble_eq_true rfl) (Nat.le_of_ble_eq_true rfl) (Nat.le_of_ble_eq_true rfl) (Nat.le_of_ble_eq_true rfl) rfl rfl (vnd_e rfl) rfl (vnd_e rfl) (dsj_e rfl) ?_
  rintro w ⟨m_thrown2_1, m_trouble2_2, hq_4, rfl⟩
  refine k_ws [(cAI g a_tape 900 d_tape), (cAI g a_letters 8 d_letters), (cAI g a_r 311 d_r), (cAI g a_fresh 311 d_fresh), (cAI g a_st 44 d_st), (cO11_i1r1i10r1i2r5i2r12i3r4i2 h0 m_thrown2_1 a_tape m_taped m_size m_at m_end m_token m_whole m_nameSize m_fault m_place m_trouble2_2 a_letters m_failed m_hasHouse a_r a_fresh a_st a_undone a_kept m_undos m_images a_from a_begin a_motor a_change a_startFrame a_changeFrame a_lostAt a_blackAt a_slips a_leftArc a_died a_arcs m_bestSum m_nearest m_nearestTown a_there a_backAt a_sorted a_parts m_seed1 m_darkNow)] rfl ?_
  refine k_iload_n X dX11_house_k0.1.1.2.1 1 rfl ?_
  refine k_iconst (v := 0) X dX11_house_k0.1.1.2.2 ic_0 ?_
  refine k_aload_n X dX11_house_k0.1.2.1.1 0 rfl ?_
  refine k_get (ci := 11) X inlX11 rfl 2 (nlt_e rfl) dX11_house_k0.1.2.1.2 mw205 5 rfl rfl ?_
  refine k_callSI (n := 3) (As := [.int p0, .int 0, .int m_taped]) (st := []) X [] [(cAI g a_tape 900 d_tape), (cAI g a_letters 8 d_letters), (cAI g a_r 311 d_r), (cAI g a_fresh 311 d_fresh), (cAI g a_st 44 d_st), (cO11_i1r1i10r1i2r5i2r12i3r4i2 h0 m_thrown2_1 a_tape m_taped m_size m_at m_end m_token m_whole m_nameSize m_fault m_place m_trouble2_2 a_letters m_failed m_hasHouse a_r a_fresh a_st a_undone a_kept m_undos m_images a_from a_begin a_motor a_change a_startFrame a_changeFrame a_lostAt a_blackAt a_slips a_leftArc a_died a_arcs m_bestSum m_nearest m_nearestTown a_there a_backAt a_sorted a_parts m_seed1 m_darkNow)] [] [0, 1, 2, 3, 4, 5] (m_inX l g p0 0 m_taped) dX11_house_k0.1.2.2.1 mw482 mw483 mw5 mw484 yk_yX11_in_3 rfl (Nat.le_of_ble_eq_true rfl) (Nat.le_of_ble_eq_true rfl) (Nat.le_of_ble_eq_true rfl) (Nat.le_of_ble_eq_true rfl) (Nat.le_of_ble_eq_true rfl) rfl rfl (vnd_e rfl) rfl (vnd_e rfl) (dsj_e rfl) ?_
  rintro r_5 w ⟨iv_6, hq_7, hk_8, hk_9, rfl⟩
  refine k_ws [(cAI g a_tape 900 d_tape), (cAI g a_letters 8 d_letters), (cAI g a_r 311 d_r), (cAI g a_fresh 311 d_fresh), (cAI g a_st 44 d_st), (cO11_i1r1i10r1i2r5i2r12i3r4i2 h0 m_thrown2_1 a_tape m_taped m_size m_at m_end m_token m_whole m_nameSize m_fault m_place m_trouble2_2 a_letters m_failed m_hasHouse a_r a_fresh a_st a_undone a_kept m_undos m_images a_from a_begin a_motor a_change a_startFrame a_changeFrame a_lostAt a_blackAt a_slips a_leftArc a_died a_arcs m_bestSum m_nearest m_nearestTown a_there a_backAt a_sorted a_parts m_seed1 m_darkNow)] rfl ?_
  refine k_if_ne 22 X dX11_house_k0.1.2.2.2 (jp_e rfl) (fun h_10 => ?_) (fun h_10 => ?_)
  · skip
    have hc_11 := hk_8.resolve_left h_10
    have j_12 : 0 ≤ p0.toInt := hc_11.1
    have iv_13 : IV p0 0 2147483647 := iv_leR hc_11.1 iq_0_0_0 (iv_any p0) (zle_e rfl)
    have j_14 : p0.toInt ≤ m_taped.toInt := hc_11.2
    have iv_15 : IV p0 0 900 := iv_leL hc_11.2 iv_13 hv_m_taped (zle_e rfl)
    have iv_16 : IV r_5 1 1 := iv_neL h_10 iv_6 iq_0_0_0 (zle_e rfl)
    refine k_aload_n X dX11_house_k0.2.2.1.1 0 rfl ?_
    refine k_iconst (v := 0) X dX11_house_k0.2.2.1.2 ic_0 ?_
    refine k_put (ci := 11) [(cAI g a_tape 900 d_tape), (cAI g a_letters 8 d_letters), (cAI g a_r 311 d_r), (cAI g a_fresh 311 d_fresh), (cAI g a_st 44 d_st), (cO11_i1r1i10r1i2r5i2r12i3r4i2 h0 m_thrown2_1 a_tape 0 m_size m_at m_end m_token m_whole m_nameSize m_fault m_place m_trouble2_2 a_letters m_failed m_hasHouse a_r a_fresh a_st a_undone a_kept m_undos m_images a_from a_begin a_motor a_change a_startFrame a_changeFrame a_lostAt a_blackAt a_slips a_leftArc a_died a_arcs m_bestSum m_nearest m_nearestTown a_there a_backAt a_sorted a_parts m_seed1 m_darkNow)] X inlX11 rfl tyX11_ok nmX11 2 (nlt_e rfl) rfl dX11_house_k0.2.2.2.1 mw205 5 rfl rfl rfl (Nat.le_of_ble_eq_true rfl) rfl ?_
    refine k_aload_n X dX11_house_k0.2.2.2.2 0 rfl ?_
    refine k_iconst (v := 0) X dX11_house_k1.1.1.1.1 ic_0 ?_
    refine k_put (ci := 11) [(cAI g a_tape 900 d_tape), (cAI g a_letters 8 d_letters), (cAI g a_r 311 d_r), (cAI g a_fresh 311 d_fresh), (cAI g a_st 44 d_st), (cO11_i1r1i10r1i2r5i2r12i3r4i2 h0 m_thrown2_1 a_tape 0 m_size m_at m_end m_token m_whole m_nameSize 0 m_place m_trouble2_2 a_letters m_failed m_hasHouse a_r a_fresh a_st a_undone a_kept m_undos m_images a_from a_begin a_motor a_change a_startFrame a_changeFrame a_lostAt a_blackAt a_slips a_leftArc a_died a_arcs m_bestSum m_nearest m_nearestTown a_there a_backAt a_sorted a_parts m_seed1 m_darkNow)] X inlX11 rfl tyX11_ok nmX11 9 (nlt_e rfl) rfl dX11_house_k1.1.1.1.2 mw468 5 rfl rfl rfl (Nat.le_of_ble_eq_true rfl) rfl ?_
    refine k_aload_n X dX11_house_k1.1.1.2.1 0 rfl ?_
    refine k_iconst (v := 0) X dX11_house_k1.1.1.2.2 ic_0 ?_
    refine k_put (ci := 11) [(cAI g a_tape 900 d_tape), (cAI g a_letters 8 d_letters), (cAI g a_r 311 d_r), (cAI g a_fresh 311 d_fresh), (cAI g a_st 44 d_st), (cO11_i1r1i10r1i2r5i2r12i3r4i2 h0 m_thrown2_1 a_tape 0 m_size m_at m_end m_token m_whole m_nameSize 0 m_place m_trouble2_2 a_letters 0 m_hasHouse a_r a_fresh a_st a_undone a_kept m_undos m_images a_from a_begin a_motor a_change a_startFrame a_changeFrame a_lostAt a_blackAt a_slips a_leftArc a_died a_arcs m_bestSum m_nearest m_nearestTown a_there a_backAt a_sorted a_parts m_seed1 m_darkNow)] X inlX11 rfl tyX11_ok nmX11 13 (nlt_e rfl) rfl dX11_house_k1.1.2.1.1 mw469 5 rfl (by decide) (by decide) (Nat.le_of_ble_eq_true rfl) rfl ?_
    refine k_iconst (v := 0) X dX11_house_k1.1.2.1.2 ic_0 ?_
    refine k_istore_n [(2, .int 0), (0, .ref h0), (1, .int p0)] X dX11_house_k1.1.2.2.1 (nlt_e rfl) rfl ?_
    refine (fun hL : ∀ (nn_22 : Nat) (uf_17 : Nat → Int32) (u_19 : Int32), (311 - u_19.toInt).toNat = nn_22 → (RInv uf_17) → (IV u_19 0 900) → (∀ i : Nat, i < u_19.toInt.toNat → uf_17 i = 0) → (∀ (m_at2 : Int32) (m_end2 : Int32) (m_failed2 : Int32) (m_fault2 : Int32) (d_fresh2 : Nat → Int32) (m_hasHouse2 : Int32) (m_images2 : Int32) (d_letters2 : Nat → Int32) (m_nameSize2 : Int32) (m_place2 : Int32) (d_r2 : Nat → Int32) (m_size2 : Int32) (d_st2 : Nat → Int32) (m_taped2 : Int32) (m_thrown2 : Int32) (m_token2 : Int32) (m_trouble2 : Int32) (m_undos2 : Int32) (m_whole2 : Int32) (r : Int32), (∃ n_0 : Nat, R_m_houseX_L0 (fun (uf_17 : Nat → Int32) => ∃ m_at2_29 : Int32, ∃ m_end2_30 : Int32, ∃ d_letters2_31 : Nat → Int32, ∃ m_nameSize2_32 : Int32, ∃ m_token2_33 : Int32, ∃ m_whole2_34 : Int32, (R_m_nextX p0 0 d_tape d_letters m_at2_29 m_end2_30 d_letters2_31 m_nameSize2_32 m_token2_33 m_whole2_34) ∧ ∃ m_at2_42 : Int32, ∃ m_end2_43 : Int32, ∃ m_failed2_44 : Int32, ∃ m_fault2_45 : Int32, ∃ d_fresh2_46 : Nat → Int32, ∃ d_letters2_47 : Nat → Int32, ∃ m_nameSize2_48 : Int32, ∃ m_place2_49 : Int32, ∃ m_token2_50 : Int32, ∃ m_whole2_51 : Int32, (R_m_readLineX p0 m_at2_29 m_end2_30 m_token2_33 m_whole2_34 m_nameSize2_32 0 m_place 0 d_tape d_letters2_31 uf_17 m_at2_42 m_end2_43 m_failed2_44 m_fault2_45 d_fresh2_46 d_letters2_47 m_nameSize2_48 m_place2_49 m_token2_50 m_whole2_51) ∧ ∃ n_1 : Nat, R_m_houseX_L1 p0 d_tape (fun (u_69 : Int32) (u_70 : Int32) (u_67 : Int32) (u_76 : Int32) (uf_62 : Nat → Int32) (uf_65 : Nat → Int32) (u_74 : Int32) (u_66 : Int32) (u_72 : Int32) (u_73 : Int32) => ∃ m_trouble2_86 : Int32, ∃ r_87 : Int32, (R_m_noX 4 m_trouble2_86 r_87) ∧ m_at2 = u_69 ∧ m_end2 = u_70 ∧ m_failed2 = u_67 ∧ m_fault2 = u_76 ∧ d_fresh2 = uf_62 ∧ m_hasHouse2 = m_hasHouse ∧ m_images2 = m_images ∧ d_letters2 = uf_65 ∧ m_nameSize2 = u_74 ∧ m_place2 = u_66 ∧ d_r2 = d_r ∧ m_size2 = p0 ∧ d_st2 = d_st ∧ m_taped2 = 0 ∧ m_thrown2 = m_thrown2_1 ∧ m_token2 = u_72 ∧ m_trouble2 = m_trouble2_86 ∧ m_undos2 = m_undos ∧ m_whole2 = u_73 ∧ r = r_87) (fun (u_72 : Int32) (uf_62 : Nat → Int32) (u_69 : Int32) (u_76 : Int32) (u_66 : Int32) (u_67 : Int32) (u_70 : Int32) (uf_65 : Nat → Int32) (u_74 : Int32) (u_73 : Int32) => (((u_72 = (0 : Int32)) ∧ (∃ z_96 : Int32, z_96 = uf_62 ((15 : Int32)).toNatClampNeg ∧ (((z_96 = (0 : Int32)) ∧ (∃ m_failed2_99 : Int32, ∃ m_fault2_100 : Int32, ∃ m_place2_101 : Int32, (R_m_badX 6 u_69 u_76 u_66 u_67 m_failed2_99 m_fault2_100 m_place2_101) ∧ ∃ m_trouble2_106 : Int32, ∃ r_107 : Int32, (R_m_noX 4 m_trouble2_106 r_107) ∧ m_at2 = u_69 ∧ m_end2 = u_70 ∧ m_failed2 = m_failed2_99 ∧ m_fault2 = m_fault2_100 ∧ d_fresh2 = uf_62 ∧ m_hasHouse2 = m_hasHouse ∧ m_images2 = m_images ∧ d_letters2 = uf_65 ∧ m_nameSize2 = u_74 ∧ m_place2 = m_place2_101 ∧ d_r2 = d_r ∧ m_size2 = p0 ∧ d_st2 = d_st ∧ m_taped2 = 0 ∧ m_thrown2 = m_thrown2_1 ∧ m_token2 = u_72 ∧ m_trouble2 = m_trouble2_106 ∧ m_undos2 = m_undos ∧ m_whole2 = u_73 ∧ r = r_107)) ∨ ((¬ (z_96 = (0 : Int32))) ∧ (∃ z_110 : Int32, z_110 = uf_62 ((12 : Int32)).toNatClampNeg ∧ (((z_110 = (0 : Int32)) ∧ (∃ m_failed2_115 : Int32, ∃ m_fault2_116 : Int32, ∃ m_place2_117 : Int32, (R_m_badX 6 u_69 u_76 u_66 u_67 m_failed2_115 m_fault2_116 m_place2_117) ∧ ∃ m_trouble2_122 : Int32, ∃ r_123 : Int32, (R_m_noX 4 m_trouble2_122 r_123) ∧ m_at2 = u_69 ∧ m_end2 = u_70 ∧ m_failed2 = m_failed2_115 ∧ m_fault2 = m_fault2_116 ∧ d_fresh2 = uf_62 ∧ m_hasHouse2 = m_hasHouse ∧ m_images2 = m_images ∧ d_letters2 = uf_65 ∧ m_nameSize2 = u_74 ∧ m_place2 = m_place2_117 ∧ d_r2 = d_r ∧ m_size2 = p0 ∧ d_st2 = d_st ∧ m_taped2 = 0 ∧ m_thrown2 = m_thrown2_1 ∧ m_token2 = u_72 ∧ m_trouble2 = m_trouble2_122 ∧ m_undos2 = m_undos ∧ m_whole2 = u_73 ∧ r = r_123)) ∨ ((¬ (z_110 = (0 : Int32))) ∧ (∃ z_127 : Int32, z_127 = uf_62 ((11 : Int32)).toNatClampNeg ∧ (((z_127 ≠ (0 : Int32)) ∧ (∃ f3_133 : Nat → Int32, (R_m_copyRX uf_62 d_r f3_133) ∧ ∃ n_2 : Nat, R_m_houseX_L2 (fun (uf_139 : Nat → Int32) => ∃ n_3 : Nat, R_m_houseX_L3 f3_133 (fun (uf_148 : Nat → Int32) => ∃ n_4 : Nat, R_m_houseX_L4 f3_133 (fun (uf_159 : Nat → Int32) => ∃ n_5 : Nat, R_m_houseX_L5 f3_133 (fun (uf_170 : Nat → Int32) => ∃ n_6 : Nat, R_m_houseX_L6 f3_133 (fun (uf_181 : Nat → Int32) (z_187 : Int32) => m_at2 = u_69 ∧ m_end2 = u_70 ∧ m_failed2 = u_67 ∧ m_fault2 = u_76 ∧ d_fresh2 = uf_62 ∧ m_hasHouse2 = 1 ∧ m_images2 = 0 ∧ d_letters2 = uf_65 ∧ m_nameSize2 = u_74 ∧ m_place2 = u_66 ∧ d_r2 = f3_133 ∧ m_size2 = p0 ∧ d_st2 = uf_181 ∧ m_taped2 = 0 ∧ m_thrown2 = m_thrown2_1 ∧ m_token2 = u_72 ∧ m_trouble2 = m_trouble2_2 ∧ m_undos2 = 0 ∧ m_whole2 = u_73 ∧ r = z_187) n_6 uf_170 0) n_5 uf_159 0) n_4 uf_148 0) n_3 uf_139 0) n_2 d_st 0)) ∨ ((z_127 = (0 : Int32)) ∧ (∃ m_failed2_275 : Int32, ∃ m_fault2_276 : Int32, ∃ m_place2_277 : Int32, (R_m_badX 6 u_69 u_76 u_66 u_67 m_failed2_275 m_fault2_276 m_place2_277) ∧ ∃ m_trouble2_282 : Int32, ∃ r_283 : Int32, (R_m_noX 4 m_trouble2_282 r_283) ∧ m_at2 = u_69 ∧ m_end2 = u_70 ∧ m_failed2 = m_failed2_275 ∧ m_fault2 = m_fault2_276 ∧ d_fresh2 = uf_62 ∧ m_hasHouse2 = m_hasHouse ∧ m_images2 = m_images ∧ d_letters2 = uf_65 ∧ m_nameSize2 = u_74 ∧ m_place2 = m_place2_277 ∧ d_r2 = d_r ∧ m_size2 = p0 ∧ d_st2 = d_st ∧ m_taped2 = 0 ∧ m_thrown2 = m_thrown2_1 ∧ m_token2 = u_72 ∧ m_trouble2 = m_trouble2_282 ∧ m_undos2 = m_undos ∧ m_whole2 = u_73 ∧ r = r_283))))))))))) ∨ ((¬ (u_72 = (0 : Int32))) ∧ (∃ m_failed2_286 : Int32, ∃ m_fault2_287 : Int32, ∃ m_place2_288 : Int32, (R_m_badX 1 u_69 u_76 u_66 u_67 m_failed2_286 m_fault2_287 m_place2_288) ∧ ∃ m_trouble2_294 : Int32, ∃ r_295 : Int32, (R_m_noX 4 m_trouble2_294 r_295) ∧ m_at2 = u_69 ∧ m_end2 = u_70 ∧ m_failed2 = m_failed2_286 ∧ m_fault2 = m_fault2_287 ∧ d_fresh2 = uf_62 ∧ m_hasHouse2 = m_hasHouse ∧ m_images2 = m_images ∧ d_letters2 = uf_65 ∧ m_nameSize2 = u_74 ∧ m_place2 = m_place2_288 ∧ d_r2 = d_r ∧ m_size2 = p0 ∧ d_st2 = d_st ∧ m_taped2 = 0 ∧ m_thrown2 = m_thrown2_1 ∧ m_token2 = u_72 ∧ m_trouble2 = m_trouble2_294 ∧ m_undos2 = m_undos ∧ m_whole2 = u_73 ∧ r = r_295)))) n_1 d_fresh2_46 d_letters2_47 m_place2_49 m_failed2_44 m_at2_42 m_end2_43 m_token2_50 m_whole2_51 m_nameSize2_48 m_fault2_45) n_0 uf_17 u_19) → R_m_houseX p0 m_taped m_size m_at m_end m_token m_whole m_nameSize m_fault m_place m_failed m_hasHouse m_undos m_images d_tape d_letters d_r d_fresh d_st m_at2 m_end2 m_failed2 m_fault2 d_fresh2 m_hasHouse2 m_images2 d_letters2 m_nameSize2 m_place2 d_r2 m_size2 d_st2 m_taped2 m_thrown2 m_token2 m_trouble2 m_undos2 m_whole2 r) → Wk p l e _ s m args below meth c _ A g _ _ _ [(cAI g a_tape 900 d_tape), (cAI g a_letters 8 d_letters), (cAI g a_r 311 d_r), (cAI g a_fresh 311 uf_17), (cAI g a_st 44 d_st), (cO11_i1r1i10r1i2r5i2r12i3r4i2 h0 m_thrown2_1 a_tape 0 m_size m_at m_end m_token m_whole m_nameSize 0 m_place m_trouble2_2 a_letters 0 m_hasHouse a_r a_fresh a_st a_undone a_kept m_undos m_images a_from a_begin a_motor a_change a_startFrame a_changeFrame a_lostAt a_blackAt a_slips a_leftArc a_died a_arcs m_bestSum m_nearest m_nearestTown a_there a_backAt a_sorted a_parts m_seed1 m_darkNow)] [(2, .int u_19), (0, .ref h0), (1, .int p0)] 39 [] => hL _ d_fresh 0 rfl hp_d_fresh (iv_w iq_0_0_0 (zle_e rfl) (zle_e rfl)) (z_0) (fun m_at2 m_end2 m_failed2 m_fault2 d_fresh2 m_hasHouse2 m_images2 d_letters2 m_nameSize2 m_place2 d_r2 m_size2 d_st2 m_taped2 m_thrown2 m_token2 m_trouble2 m_undos2 m_whole2 r h => ⟨m_thrown2_1, m_trouble2_2, hq_4, ⟨r_5, hq_7, (Or.inl ⟨h_10, h⟩)⟩⟩)) ?_
    refine fun nn_22 => Nat.strongRecOn nn_22 (fun nn_22 ih_24 => ?_)
    intro uf_17 u_19 hm_23 hp_18 hv_20 hx_21 KH_0
    refine k_iload_n X dX11_house_k1.1.2.2.2 0 rfl ?_
    refine k_sipush (v := 311) X dX11_house_k1.2.1.1.1 si_311 ?_
    refine k_ic_ge 59 X dX11_house_k1.2.1.1.2 (jp_e rfl) (fun h_25 => ?_) (fun h_25 => ?_)
    · skip
      have j_26 : 311 ≤ u_19.toInt := iv_le h_25
      have iv_27 : IV u_19 311 900 := iv_leR (iv_le h_25) iq_311_311_311 hv_20 (zle_e rfl)
      have hT_28 : TRI uf_17 := tri_zero hx_21 (by omega)
      refine k_aload_n X dX11_house_k2.1.1.1.2 1 rfl ?_
      refine k_iload_n X dX11_house_k2.1.1.2.1 2 rfl ?_
      refine k_put (ci := 11) [(cAI g a_tape 900 d_tape), (cAI g a_letters 8 d_letters), (cAI g a_r 311 d_r), (cAI g a_fresh 311 uf_17), (cAI g a_st 44 d_st), (cO11_i1r1i10r1i2r5i2r12i3r4i2 h0 m_thrown2_1 a_tape 0 p0 m_at m_end m_token m_whole m_nameSize 0 m_place m_trouble2_2 a_letters 0 m_hasHouse a_r a_fresh a_st a_undone a_kept m_undos m_images a_from a_begin a_motor a_change a_startFrame a_changeFrame a_lostAt a_blackAt a_slips a_leftArc a_died a_arcs m_bestSum m_nearest m_nearestTown a_there a_backAt a_sorted a_parts m_seed1 m_darkNow)] X inlX11 rfl tyX11_ok nmX11 3 (nlt_e rfl) rfl dX11_house_k2.1.1.2.2 mw470 5 rfl rfl rfl (Nat.le_of_ble_eq_true rfl) rfl ?_
      refine k_aload_n X dX11_house_k2.1.2.1.1 1 rfl ?_
      refine k_iconst (v := 0) X dX11_house_k2.1.2.1.2 ic_0 ?_
      refine k_put (ci := 11) [(cAI g a_tape 900 d_tape), (cAI g a_letters 8 d_letters), (cAI g a_r 311 d_r), (cAI g a_fresh 311 uf_17), (cAI g a_st 44 d_st), (cO11_i1r1i10r1i2r5i2r12i3r4i2 h0 m_thrown2_1 a_tape 0 p0 m_at 0 m_token m_whole m_nameSize 0 m_place m_trouble2_2 a_letters 0 m_hasHouse a_r a_fresh a_st a_undone a_kept m_undos m_images a_from a_begin a_motor a_change a_startFrame a_changeFrame a_lostAt a_blackAt a_slips a_leftArc a_died a_arcs m_bestSum m_nearest m_nearestTown a_there a_backAt a_sorted a_parts m_seed1 m_darkNow)] X inlX11 rfl tyX11_ok nmX11 5 (nlt_e rfl) rfl dX11_house_k2.1.2.2.1 mw471 5 rfl rfl rfl (Nat.le_of_ble_eq_true rfl) rfl ?_
      refine k_aload_n X dX11_house_k2.1.2.2.2 1 rfl ?_
      refine k_callVV (n := 0) (As := []) (st := []) X [(cO11_i1r1i10r1i2r5i2r12i3r4i2 h0 m_thrown2_1 a_tape 0 p0 m_at 0 m_token m_whole m_nameSize 0 m_place m_trouble2_2 a_letters 0 m_hasHouse a_r a_fresh a_st a_undone a_kept m_undos m_images a_from a_begin a_motor a_change a_startFrame a_changeFrame a_lostAt a_blackAt a_slips a_leftArc a_died a_arcs m_bestSum m_nearest m_nearestTown a_there a_backAt a_sorted a_parts m_seed1 m_darkNow), (cAI g a_tape 900 d_tape), (cAI g a_letters 8 d_letters)] [(cAI g a_r 311 d_r), (cAI g a_fresh 311 uf_17), (cAI g a_st 44 d_st)] [5, 0, 1] [2, 3, 4] (m_nextX l g h0 m_thrown2_1 a_tape 0 p0 m_at 0 m_token m_whole m_nameSize 0 m_place m_trouble2_2 a_letters 0 m_hasHouse a_r a_fresh a_st a_undone a_kept m_undos m_images a_from a_begin a_motor a_change a_startFrame a_changeFrame a_lostAt a_blackAt a_slips a_leftArc a_died a_arcs m_bestSum m_nearest m_nearestTown a_there a_backAt a_sorted a_parts m_seed1 m_darkNow d_tape d_letters (iv_w iv_15 (zle_e rfl) (zle_e rfl)) (iv_w iq_0_0_0 (zle_e rfl) (zle_e rfl)) (iv_w hv_m_nameSize (zle_e rfl) (zle_e rfl))) dX11_house_k2.2.1.1.1 mw489 mw490 mw491 mw5 mw492 rfl 11 rfl rfl 0 _ rfl yk_yX11_next_0 rfl (Nat.le_of_ble_eq_true rfl) (Nat.le_of_ble_eq_true rfl) (Nat.le_of_ble_eq_true rfl) (Nat.le_of_ble_eq_true rfl) (Nat.le_of_ble_eq_true rfl) rfl rfl (vnd_e rfl) rfl (vnd_e rfl) (dsj_e rfl) ?_
      intro w zq
      refine exE6 zq ?_
      clear zq
      intro m_at2_29 m_end2_30 d_letters2_31 m_nameSize2_32 m_token2_33 m_whole2_34 iv_36 zq
      refine exA5 zq ?_
      clear zq
      intro iv_37 hq_38 hq_39 hq_40 hk_41 zq
      subst zq
      refine k_ws [(cAI g a_r 311 d_r), (cAI g a_fresh 311 uf_17), (cAI g a_st 44 d_st), (cO11_i1r1i10r1i2r5i2r12i3r4i2 h0 m_thrown2_1 a_tape 0 p0 m_at2_29 m_end2_30 m_token2_33 m_whole2_34 m_nameSize2_32 0 m_place m_trouble2_2 a_letters 0 m_hasHouse a_r a_fresh a_st a_undone a_kept m_undos m_images a_from a_begin a_motor a_change a_startFrame a_changeFrame a_lostAt a_blackAt a_slips a_leftArc a_died a_arcs m_bestSum m_nearest m_nearestTown a_there a_backAt a_sorted a_parts m_seed1 m_darkNow), (cAI g a_tape 900 d_tape), (cAI g a_letters 8 d_letters2_31)] rfl ?_
      refine k_aload_n X dX11_house_k2.2.1.1.2 1 rfl ?_
      refine k_callVV (n := 0) (As := []) (st := []) X [(cO11_i1r1i10r1i2r5i2r12i3r4i2 h0 m_thrown2_1 a_tape 0 p0 m_at2_29 m_end2_30 m_token2_33 m_whole2_34 m_nameSize2_32 0 m_place m_trouble2_2 a_letters 0 m_hasHouse a_r a_fresh a_st a_undone a_kept m_undos m_images a_from a_begin a_motor a_change a_startFrame a_changeFrame a_lostAt a_blackAt a_slips a_leftArc a_died a_arcs m_bestSum m_nearest m_nearestTown a_there a_backAt a_sorted a_parts m_seed1 m_darkNow), (cAI g a_tape 900 d_tape), (cAI g a_letters 8 d_letters2_31), (cAI g a_fresh 311 uf_17)] [(cAI g a_r 311 d_r), (cAI g a_st 44 d_st)] [3, 4, 5, 1] [0, 2] (m_readLineX l g h0 m_thrown2_1 a_tape 0 p0 m_at2_29 m_end2_30 m_token2_33 m_whole2_34 m_nameSize2_32 0 m_place m_trouble2_2 a_letters 0 m_hasHouse a_r a_fresh a_st a_undone a_kept m_undos m_images a_from a_begin a_motor a_change a_startFrame a_changeFrame a_lostAt a_blackAt a_slips a_leftArc a_died a_arcs m_bestSum m_nearest m_nearestTown a_there a_backAt a_sorted a_parts m_seed1 m_darkNow d_tape d_letters2_31 uf_17 (iv_w iv_15 (zle_e rfl) (zle_e rfl)) (iv_w iv_36 (zle_e rfl) (zle_e rfl)) (iv_w iv_37 (zle_e rfl) (zle_e rfl)) (iv_w iq_0_0_0 (zle_e rfl) (zle_e rfl)) hp_18 hT_28 hk_41) dX11_house_k2.2.1.2.1 mw505 mw506 mw507 mw5 mw508 rfl 11 rfl rfl 0 _ rfl yk_yX11_readLine_0 rfl (Nat.le_of_ble_eq_true rfl) (Nat.le_of_ble_eq_true rfl) (Nat.le_of_ble_eq_true rfl) (Nat.le_of_ble_eq_true rfl) (Nat.le_of_ble_eq_true rfl) rfl rfl (vnd_e rfl) rfl (vnd_e rfl) (dsj_e rfl) ?_
      intro w zq
      refine exE10 zq ?_
      clear zq
      intro m_at2_42 m_end2_43 m_failed2_44 m_fault2_45 d_fresh2_46 d_letters2_47 m_nameSize2_48 m_place2_49 m_token2_50 m_whole2_51 iv_53 zq
      refine exA8 zq ?_
      clear zq
      intro iv_54 iv_55 hp_56 hq_57 hq_58 hq_59 hq_60 hk_61 zq
      subst zq
      refine k_ws [(cAI g a_r 311 d_r), (cAI g a_st 44 d_st), (cO11_i1r1i10r1i2r5i2r12i3r4i2 h0 m_thrown2_1 a_tape 0 p0 m_at2_42 m_end2_43 m_token2_50 m_whole2_51 m_nameSize2_48 m_fault2_45 m_place2_49 m_trouble2_2 a_letters m_failed2_44 m_hasHouse a_r a_fresh a_st a_undone a_kept m_undos m_images a_from a_begin a_motor a_change a_startFrame a_changeFrame a_lostAt a_blackAt a_slips a_leftArc a_died a_arcs m_bestSum m_nearest m_nearestTown a_there a_backAt a_sorted a_parts m_seed1 m_darkNow), (cAI g a_tape 900 d_tape), (cAI g a_letters 8 d_letters2_47), (cAI g a_fresh 311 d_fresh2_46)] rfl ?_
      refine (fun hL : ∀ (nn_78 : Nat) (uf_62 : Nat → Int32) (uf_65 : Nat → Int32) (u_66 : Int32) (u_67 : Int32) (u_69 : Int32) (u_70 : Int32) (u_72 : Int32) (u_73 : Int32) (u_74 : Int32) (u_76 : Int32), (2 * (901 - u_70.toInt) + (1 - u_67.toInt)).toNat = nn_78 → (RInv uf_62) → (TRI uf_62) → (IV u_67 0 1) → (IV u_70 0 900) → (IV u_74 0 900) → (u_72 = 2 → IV u_74 0 8) → (∀ (m_at2 : Int32) (m_end2 : Int32) (m_failed2 : Int32) (m_fault2 : Int32) (d_fresh2 : Nat → Int32) (m_hasHouse2 : Int32) (m_images2 : Int32) (d_letters2 : Nat → Int32) (m_nameSize2 : Int32) (m_place2 : Int32) (d_r2 : Nat → Int32) (m_size2 : Int32) (d_st2 : Nat → Int32) (m_taped2 : Int32) (m_thrown2 : Int32) (m_token2 : Int32) (m_trouble2 : Int32) (m_undos2 : Int32) (m_whole2 : Int32) (r : Int32), (∃ n_1 : Nat, R_m_houseX_L1 p0 d_tape (fun (u_69 : Int32) (u_70 : Int32) (u_67 : Int32) (u_76 : Int32) (uf_62 : Nat → Int32) (uf_65 : Nat → Int32) (u_74 : Int32) (u_66 : Int32) (u_72 : Int32) (u_73 : Int32) => ∃ m_trouble2_86 : Int32, ∃ r_87 : Int32, (R_m_noX 4 m_trouble2_86 r_87) ∧ m_at2 = u_69 ∧ m_end2 = u_70 ∧ m_failed2 = u_67 ∧ m_fault2 = u_76 ∧ d_fresh2 = uf_62 ∧ m_hasHouse2 = m_hasHouse ∧ m_images2 = m_images ∧ d_letters2 = uf_65 ∧ m_nameSize2 = u_74 ∧ m_place2 = u_66 ∧ d_r2 = d_r ∧ m_size2 = p0 ∧ d_st2 = d_st ∧ m_taped2 = 0 ∧ m_thrown2 = m_thrown2_1 ∧ m_token2 = u_72 ∧ m_trouble2 = m_trouble2_86 ∧ m_undos2 = m_undos ∧ m_whole2 = u_73 ∧ r = r_87) (fun (u_72 : Int32) (uf_62 : Nat → Int32) (u_69 : Int32) (u_76 : Int32) (u_66 : Int32) (u_67 : Int32) (u_70 : Int32) (uf_65 : Nat → Int32) (u_74 : Int32) (u_73 : Int32) => (((u_72 = (0 : Int32)) ∧ (∃ z_96 : Int32, z_96 = uf_62 ((15 : Int32)).toNatClampNeg ∧ (((z_96 = (0 : Int32)) ∧ (∃ m_failed2_99 : Int32, ∃ m_fault2_100 : Int32, ∃ m_place2_101 : Int32, (R_m_badX 6 u_69 u_76 u_66 u_67 m_failed2_99 m_fault2_100 m_place2_101) ∧ ∃ m_trouble2_106 : Int32, ∃ r_107 : Int32, (R_m_noX 4 m_trouble2_106 r_107) ∧ m_at2 = u_69 ∧ m_end2 = u_70 ∧ m_failed2 = m_failed2_99 ∧ m_fault2 = m_fault2_100 ∧ d_fresh2 = uf_62 ∧ m_hasHouse2 = m_hasHouse ∧ m_images2 = m_images ∧ d_letters2 = uf_65 ∧ m_nameSize2 = u_74 ∧ m_place2 = m_place2_101 ∧ d_r2 = d_r ∧ m_size2 = p0 ∧ d_st2 = d_st ∧ m_taped2 = 0 ∧ m_thrown2 = m_thrown2_1 ∧ m_token2 = u_72 ∧ m_trouble2 = m_trouble2_106 ∧ m_undos2 = m_undos ∧ m_whole2 = u_73 ∧ r = r_107)) ∨ ((¬ (z_96 = (0 : Int32))) ∧ (∃ z_110 : Int32, z_110 = uf_62 ((12 : Int32)).toNatClampNeg ∧ (((z_110 = (0 : Int32)) ∧ (∃ m_failed2_115 : Int32, ∃ m_fault2_116 : Int32, ∃ m_place2_117 : Int32, (R_m_badX 6 u_69 u_76 u_66 u_67 m_failed2_115 m_fault2_116 m_place2_117) ∧ ∃ m_trouble2_122 : Int32, ∃ r_123 : Int32, (R_m_noX 4 m_trouble2_122 r_123) ∧ m_at2 = u_69 ∧ m_end2 = u_70 ∧ m_failed2 = m_failed2_115 ∧ m_fault2 = m_fault2_116 ∧ d_fresh2 = uf_62 ∧ m_hasHouse2 = m_hasHouse ∧ m_images2 = m_images ∧ d_letters2 = uf_65 ∧ m_nameSize2 = u_74 ∧ m_place2 = m_place2_117 ∧ d_r2 = d_r ∧ m_size2 = p0 ∧ d_st2 = d_st ∧ m_taped2 = 0 ∧ m_thrown2 = m_thrown2_1 ∧ m_token2 = u_72 ∧ m_trouble2 = m_trouble2_122 ∧ m_undos2 = m_undos ∧ m_whole2 = u_73 ∧ r = r_123)) ∨ ((¬ (z_110 = (0 : Int32))) ∧ (∃ z_127 : Int32, z_127 = uf_62 ((11 : Int32)).toNatClampNeg ∧ (((z_127 ≠ (0 : Int32)) ∧ (∃ f3_133 : Nat → Int32, (R_m_copyRX uf_62 d_r f3_133) ∧ ∃ n_2 : Nat, R_m_houseX_L2 (fun (uf_139 : Nat → Int32) => ∃ n_3 : Nat, R_m_houseX_L3 f3_133 (fun (uf_148 : Nat → Int32) => ∃ n_4 : Nat, R_m_houseX_L4 f3_133 (fun (uf_159 : Nat → Int32) => ∃ n_5 : Nat, R_m_houseX_L5 f3_133 (fun (uf_170 : Nat → Int32) => ∃ n_6 : Nat, R_m_houseX_L6 f3_133 (fun (uf_181 : Nat → Int32) (z_187 : Int32) => m_at2 = u_69 ∧ m_end2 = u_70 ∧ m_failed2 = u_67 ∧ m_fault2 = u_76 ∧ d_fresh2 = uf_62 ∧ m_hasHouse2 = 1 ∧ m_images2 = 0 ∧ d_letters2 = uf_65 ∧ m_nameSize2 = u_74 ∧ m_place2 = u_66 ∧ d_r2 = f3_133 ∧ m_size2 = p0 ∧ d_st2 = uf_181 ∧ m_taped2 = 0 ∧ m_thrown2 = m_thrown2_1 ∧ m_token2 = u_72 ∧ m_trouble2 = m_trouble2_2 ∧ m_undos2 = 0 ∧ m_whole2 = u_73 ∧ r = z_187) n_6 uf_170 0) n_5 uf_159 0) n_4 uf_148 0) n_3 uf_139 0) n_2 d_st 0)) ∨ ((z_127 = (0 : Int32)) ∧ (∃ m_failed2_275 : Int32, ∃ m_fault2_276 : Int32, ∃ m_place2_277 : Int32, (R_m_badX 6 u_69 u_76 u_66 u_67 m_failed2_275 m_fault2_276 m_place2_277) ∧ ∃ m_trouble2_282 : Int32, ∃ r_283 : Int32, (R_m_noX 4 m_trouble2_282 r_283) ∧ m_at2 = u_69 ∧ m_end2 = u_70 ∧ m_failed2 = m_failed2_275 ∧ m_fault2 = m_fault2_276 ∧ d_fresh2 = uf_62 ∧ m_hasHouse2 = m_hasHouse ∧ m_images2 = m_images ∧ d_letters2 = uf_65 ∧ m_nameSize2 = u_74 ∧ m_place2 = m_place2_277 ∧ d_r2 = d_r ∧ m_size2 = p0 ∧ d_st2 = d_st ∧ m_taped2 = 0 ∧ m_thrown2 = m_thrown2_1 ∧ m_token2 = u_72 ∧ m_trouble2 = m_trouble2_282 ∧ m_undos2 = m_undos ∧ m_whole2 = u_73 ∧ r = r_283))))))))))) ∨ ((¬ (u_72 = (0 : Int32))) ∧ (∃ m_failed2_286 : Int32, ∃ m_fault2_287 : Int32, ∃ m_place2_288 : Int32, (R_m_badX 1 u_69 u_76 u_66 u_67 m_failed2_286 m_fault2_287 m_place2_288) ∧ ∃ m_trouble2_294 : Int32, ∃ r_295 : Int32, (R_m_noX 4 m_trouble2_294 r_295) ∧ m_at2 = u_69 ∧ m_end2 = u_70 ∧ m_failed2 = m_failed2_286 ∧ m_fault2 = m_fault2_287 ∧ d_fresh2 = uf_62 ∧ m_hasHouse2 = m_hasHouse ∧ m_images2 = m_images ∧ d_letters2 = uf_65 ∧ m_nameSize2 = u_74 ∧ m_place2 = m_place2_288 ∧ d_r2 = d_r ∧ m_size2 = p0 ∧ d_st2 = d_st ∧ m_taped2 = 0 ∧ m_thrown2 = m_thrown2_1 ∧ m_token2 = u_72 ∧ m_trouble2 = m_trouble2_294 ∧ m_undos2 = m_undos ∧ m_whole2 = u_73 ∧ r = r_295)))) n_1 uf_62 uf_65 u_66 u_67 u_69 u_70 u_72 u_73 u_74 u_76) → R_m_houseX p0 m_taped m_size m_at m_end m_token m_whole m_nameSize m_fault m_place m_failed m_hasHouse m_undos m_images d_tape d_letters d_r d_fresh d_st m_at2 m_end2 m_failed2 m_fault2 d_fresh2 m_hasHouse2 m_images2 d_letters2 m_nameSize2 m_place2 d_r2 m_size2 d_st2 m_taped2 m_thrown2 m_token2 m_trouble2 m_undos2 m_whole2 r) → Wk p l e _ s m args below meth c _ A g _ _ _ [(cAI g a_r 311 d_r), (cAI g a_st 44 d_st), (cO11_i1r1i10r1i2r5i2r12i3r4i2 h0 m_thrown2_1 a_tape 0 p0 u_69 u_70 u_72 u_73 u_74 u_76 u_66 m_trouble2_2 a_letters u_67 m_hasHouse a_r a_fresh a_st a_undone a_kept m_undos m_images a_from a_begin a_motor a_change a_startFrame a_changeFrame a_lostAt a_blackAt a_slips a_leftArc a_died a_arcs m_bestSum m_nearest m_nearestTown a_there a_backAt a_sorted a_parts m_seed1 m_darkNow), (cAI g a_tape 900 d_tape), (cAI g a_letters 8 uf_65), (cAI g a_fresh 311 uf_62)] [(2, .int u_19), (0, .ref h0), (1, .int p0)] 77 [] => hL _ d_fresh2_46 d_letters2_47 m_place2_49 m_failed2_44 m_at2_42 m_end2_43 m_token2_50 m_whole2_51 m_nameSize2_48 m_fault2_45 rfl hp_56 hq_59 (iv_w iv_54 (zle_e rfl) (zle_e rfl)) (iv_w iv_53 (zle_e rfl) (zle_e rfl)) (iv_w iv_55 (zle_e rfl) (zle_e rfl)) hk_61 (fun m_at2 m_end2 m_failed2 m_fault2 d_fresh2 m_hasHouse2 m_images2 d_letters2 m_nameSize2 m_place2 d_r2 m_size2 d_st2 m_taped2 m_thrown2 m_token2 m_trouble2 m_undos2 m_whole2 r h => (KH_0 _ _ _ _ _ _ _ _ _ _ _ _ _ _ _ _ _ _ _ _ ⟨0 + 1, (Or.inl ⟨h_25, ⟨m_at2_29, m_end2_30, d_letters2_31, m_nameSize2_32, m_token2_33, m_whole2_34, hq_40, ⟨m_at2_42, m_end2_43, m_failed2_44, m_fault2_45, d_fresh2_46, d_letters2_47, m_nameSize2_48, m_place2_49, m_token2_50, m_whole2_51, hq_60, h⟩⟩⟩)⟩))) ?_
      refine fun nn_78 => Nat.strongRecOn nn_78 (fun nn_78 ih_80 => ?_)
      intro uf_62 uf_65 u_66 u_67 u_69 u_70 u_72 u_73 u_74 u_76 hm_79 hp_63 hT_64 hv_68 hv_71 hv_75 hx_77 KH_1
      refine k_aload_n X dX11_house_k2.2.1.2.2 1 rfl ?_
      refine k_get (ci := 11) X inlX11 rfl 13 (nlt_e rfl) dX11_house_k2.2.2.1.1 mw469 2 rfl rfl ?_
      refine k_if_ne 104 X dX11_house_k2.2.2.1.2 (jp_e rfl) (fun h_81 => ?_) (fun h_81 => ?_)
      · skip
        have iv_82 : IV u_67 1 1 := iv_neL h_81 hv_68 iq_0_0_0 (zle_e rfl)
        refine k_aload_n X dX11_house_k3.1.2.2.2 1 rfl ?_
        refine k_get (ci := 11) X inlX11 rfl 13 (nlt_e rfl) dX11_house_k3.2.1.1.1 mw469 2 rfl rfl ?_
        refine k_if_ne 127 X dX11_house_k3.2.1.1.2 (jp_e rfl) (fun h_83 => ?_) (fun h_83 => (iv_eqN h_83 iv_82 iq_0_0_0 (by decide)).elim)
        refine k_aload_n X dX11_house_k4.1.1.2.1 1 rfl ?_
        refine k_get (ci := 11) X inlX11 rfl 13 (nlt_e rfl) dX11_house_k4.1.1.2.2 mw469 2 rfl rfl ?_
        refine k_if_ne 174 X dX11_house_k4.1.2.1.1 (jp_e rfl) (fun h_84 => ?_) (fun h_84 => (iv_eqN h_84 iv_82 iq_0_0_0 (by decide)).elim)
        refine k_aload_n X dX11_house_k5.2.1.1.2 1 rfl ?_
        refine k_get (ci := 11) X inlX11 rfl 13 (nlt_e rfl) dX11_house_k5.2.1.2.1 mw469 2 rfl rfl ?_
        refine k_if_eq 187 X dX11_house_k5.2.1.2.2 (jp_e rfl) (fun h_85 => (iv_eqN h_85 iv_82 iq_0_0_0 (by decide)).elim) (fun h_85 => ?_)
        refine k_aload_n X dX11_house_k5.2.2.1.1 1 rfl ?_
        refine k_iconst (v := 4) X dX11_house_k5.2.2.1.2 ic_4 ?_
        refine k_callVI (n := 1) (As := [.int 4]) (st := []) X [(cO11_i1r1i10r1i2r5i2r12i3r4i2 h0 m_thrown2_1 a_tape 0 p0 u_69 u_70 u_72 u_73 u_74 u_76 u_66 m_trouble2_2 a_letters u_67 m_hasHouse a_r a_fresh a_st a_undone a_kept m_undos m_images a_from a_begin a_motor a_change a_startFrame a_changeFrame a_lostAt a_blackAt a_slips a_leftArc a_died a_arcs m_bestSum m_nearest m_nearestTown a_there a_backAt a_sorted a_parts m_seed1 m_darkNow)] [(cAI g a_r 311 d_r), (cAI g a_st 44 d_st), (cAI g a_tape 900 d_tape), (cAI g a_letters 8 uf_65), (cAI g a_fresh 311 uf_62)] [2] [0, 1, 3, 4, 5] (m_noX l g h0 4 m_thrown2_1 a_tape 0 p0 u_69 u_70 u_72 u_73 u_74 u_76 u_66 m_trouble2_2 a_letters u_67 m_hasHouse a_r a_fresh a_st a_undone a_kept m_undos m_images a_from a_begin a_motor a_change a_startFrame a_changeFrame a_lostAt a_blackAt a_slips a_leftArc a_died a_arcs m_bestSum m_nearest m_nearestTown a_there a_backAt a_sorted a_parts m_seed1 m_darkNow) dX11_house_k5.2.2.2.1 mw485 mw486 mw487 mw5 mw488 rfl 11 rfl rfl 0 _ rfl yk_yX11_no_1 rfl (Nat.le_of_ble_eq_true rfl) (Nat.le_of_ble_eq_true rfl) (Nat.le_of_ble_eq_true rfl) (Nat.le_of_ble_eq_true rfl) (Nat.le_of_ble_eq_true rfl) rfl rfl (vnd_e rfl) rfl (vnd_e rfl) (dsj_e rfl) ?_
        rintro r_87 w ⟨m_trouble2_86, iv_88, hq_89, rfl⟩
        refine k_ws [(cAI g a_r 311 d_r), (cAI g a_st 44 d_st), (cAI g a_tape 900 d_tape), (cAI g a_letters 8 uf_65), (cAI g a_fresh 311 uf_62), (cO11_i1r1i10r1i2r5i2r12i3r4i2 h0 m_thrown2_1 a_tape 0 p0 u_69 u_70 u_72 u_73 u_74 u_76 u_66 m_trouble2_86 a_letters u_67 m_hasHouse a_r a_fresh a_st a_undone a_kept m_undos m_images a_from a_begin a_motor a_change a_startFrame a_changeFrame a_lostAt a_blackAt a_slips a_leftArc a_died a_arcs m_bestSum m_nearest m_nearestTown a_there a_backAt a_sorted a_parts m_seed1 m_darkNow)] rfl ?_
        exact k_iret X hr dX11_house_k5.2.2.2.2 (Nat.le_of_ble_eq_true rfl) (Nat.le_of_ble_eq_true rfl) [5, 2, 3, 0, 4, 1] (vnd_e rfl) rfl rfl ⟨u_69, u_70, u_67, u_76, uf_62, m_hasHouse, m_images, uf_65, u_74, u_66, d_r, p0, d_st, 0, m_thrown2_1, u_72, m_trouble2_86, m_undos, u_73, (iv_w hv_71 (zle_e rfl) (zle_e rfl)), (iv_w iv_82 (zle_e rfl) (zle_e rfl)), (iv_w hv_m_hasHouse (zle_e rfl) (zle_e rfl)), (iv_w hv_m_images (zle_e rfl) (zle_e rfl)), (iv_w hv_75 (zle_e rfl) (zle_e rfl)), (iv_w iv_15 (zle_e rfl) (zle_e rfl)), (iv_w iq_0_0_0 (zle_e rfl) (zle_e rfl)), (iv_w hv_m_undos (zle_e rfl) (zle_e rfl)), hp_d_r, hp_63, (by refine ⟨fun q => ?_, fun q => ?_⟩ <;> first | rfl | (exfalso; omega)), hr_0, (KH_1 _ _ _ _ _ _ _ _ _ _ _ _ _ _ _ _ _ _ _ _ ⟨0 + 1, (Or.inl ⟨h_81, ⟨m_trouble2_86, r_87, hq_89, ⟨rfl, rfl, rfl, rfl, rfl, rfl, rfl, rfl, rfl, rfl, rfl, rfl, rfl, rfl, rfl, rfl, rfl, rfl, rfl, rfl⟩⟩⟩)⟩), rfl⟩
      · skip
        have iv_90 : IV u_67 0 0 := iv_meet hv_68 (iv_e h_81 iq_0_0_0) (zle_o rfl) (zle_o rfl)
        refine k_aload_n X dX11_house_k2.2.2.2.1 1 rfl ?_
        refine k_get (ci := 11) X inlX11 rfl 6 (nlt_e rfl) dX11_house_k2.2.2.2.2 mw472 2 rfl rfl ?_
        refine k_bipush (v := 59) X dX11_house_k3.1.1.1.1 bi_59 ?_
        refine k_ic_ne 104 X dX11_house_k3.1.1.1.2 (jp_e rfl) (fun h_91 => ?_) (fun h_91 => ?_)
        · skip
          refine k_aload_n X dX11_house_k3.1.2.2.2 1 rfl ?_
          refine k_get (ci := 11) X inlX11 rfl 13 (nlt_e rfl) dX11_house_k3.2.1.1.1 mw469 2 rfl rfl ?_
          refine k_if_ne 127 X dX11_house_k3.2.1.1.2 (jp_e rfl) (fun h_92 => absurd (iv_eq iv_90 iq_0_0_0) h_92) (fun h_92 => ?_)
          refine k_aload_n X dX11_house_k3.2.1.2.1 1 rfl ?_
          refine k_get (ci := 11) X inlX11 rfl 6 (nlt_e rfl) dX11_house_k3.2.1.2.2 mw472 2 rfl rfl ?_
          refine k_if_eq 127 X dX11_house_k3.2.2.1.1 (jp_e rfl) (fun h_93 => ?_) (fun h_93 => ?_)
          · skip
            have iv_94 : IV u_72 0 0 := iv_meet (iv_any u_72) (iv_e h_93 iq_0_0_0) (zle_o rfl) (zle_o rfl)
            refine k_aload_n X dX11_house_k4.1.1.2.1 1 rfl ?_
            refine k_get (ci := 11) X inlX11 rfl 13 (nlt_e rfl) dX11_house_k4.1.1.2.2 mw469 2 rfl rfl ?_
            refine k_if_ne 174 X dX11_house_k4.1.2.1.1 (jp_e rfl) (fun h_95 => absurd (iv_eq iv_90 iq_0_0_0) h_95) (fun h_95 => ?_)
            refine k_aload_n X dX11_house_k4.1.2.1.2 1 rfl ?_
            refine k_get (ci := 11) X inlX11 rfl 16 (nlt_e rfl) dX11_house_k4.1.2.2.1 mw171 2 rfl rfl ?_
            refine k_bipush (v := 15) X dX11_house_k4.1.2.2.2 bi_15 ?_
            refine k_iald X dX11_house_k4.2.1.1.1 5 rfl (by unfold vp_in; decide) ?_
            refine k_nm (fun z_96 ez_96 => ?_)
            refine k_if_eq 164 X dX11_house_k4.2.1.1.2 (jp_e rfl) (fun h_97 => ?_) (fun h_97 => ?_)
            · skip
              have iv_98 : IV z_96 0 0 := iv_meet (iv_any z_96) (iv_e h_97 iq_0_0_0) (zle_o rfl) (zle_o rfl)
              refine k_aload_n X dX11_house_k5.1.2.1.1 1 rfl ?_
              refine k_bipush (v := 6) X dX11_house_k5.1.2.1.2 bi_6 ?_
              refine k_aload_n X dX11_house_k5.1.2.2.1 1 rfl ?_
              refine k_get (ci := 11) X inlX11 rfl 4 (nlt_e rfl) dX11_house_k5.1.2.2.2 mw473 2 rfl rfl ?_
              refine k_callVV (n := 2) (As := [.int 6, .int u_69]) (st := []) X [(cO11_i1r1i10r1i2r5i2r12i3r4i2 h0 m_thrown2_1 a_tape 0 p0 u_69 u_70 u_72 u_73 u_74 u_76 u_66 m_trouble2_2 a_letters u_67 m_hasHouse a_r a_fresh a_st a_undone a_kept m_undos m_images a_from a_begin a_motor a_change a_startFrame a_changeFrame a_lostAt a_blackAt a_slips a_leftArc a_died a_arcs m_bestSum m_nearest m_nearestTown a_there a_backAt a_sorted a_parts m_seed1 m_darkNow)] [(cAI g a_r 311 d_r), (cAI g a_st 44 d_st), (cAI g a_tape 900 d_tape), (cAI g a_letters 8 uf_65), (cAI g a_fresh 311 uf_62)] [2] [0, 1, 3, 4, 5] (m_badX l g h0 6 u_69 m_thrown2_1 a_tape 0 p0 u_69 u_70 u_72 u_73 u_74 u_76 u_66 m_trouble2_2 a_letters u_67 m_hasHouse a_r a_fresh a_st a_undone a_kept m_undos m_images a_from a_begin a_motor a_change a_startFrame a_changeFrame a_lostAt a_blackAt a_slips a_leftArc a_died a_arcs m_bestSum m_nearest m_nearestTown a_there a_backAt a_sorted a_parts m_seed1 m_darkNow (iv_w iv_90 (zle_e rfl) (zle_e rfl))) dX11_house_k5.2.1.1.1 mw519 mw520 mw521 mw5 mw522 rfl 11 rfl rfl 0 _ rfl yk_yX11_bad_2 rfl (Nat.le_of_ble_eq_true rfl) (Nat.le_of_ble_eq_true rfl) (Nat.le_of_ble_eq_true rfl) (Nat.le_of_ble_eq_true rfl) (Nat.le_of_ble_eq_true rfl) rfl rfl (vnd_e rfl) rfl (vnd_e rfl) (dsj_e rfl) ?_
              rintro w ⟨m_failed2_99, m_fault2_100, m_place2_101, iv_103, hq_104, rfl⟩
              refine k_ws [(cAI g a_r 311 d_r), (cAI g a_st 44 d_st), (cAI g a_tape 900 d_tape), (cAI g a_letters 8 uf_65), (cAI g a_fresh 311 uf_62), (cO11_i1r1i10r1i2r5i2r12i3r4i2 h0 m_thrown2_1 a_tape 0 p0 u_69 u_70 u_72 u_73 u_74 m_fault2_100 m_place2_101 m_trouble2_2 a_letters m_failed2_99 m_hasHouse a_r a_fresh a_st a_undone a_kept m_undos m_images a_from a_begin a_motor a_change a_startFrame a_changeFrame a_lostAt a_blackAt a_slips a_leftArc a_died a_arcs m_bestSum m_nearest m_nearestTown a_there a_backAt a_sorted a_parts m_seed1 m_darkNow)] rfl ?_
              refine k_aload_n X dX11_house_k5.2.1.1.2 1 rfl ?_
              refine k_get (ci := 11) X inlX11 rfl 13 (nlt_e rfl) dX11_house_k5.2.1.2.1 mw469 5 rfl rfl ?_
              refine k_if_eq 187 X dX11_house_k5.2.1.2.2 (jp_e rfl) (fun h_105 => (iv_eqN h_105 iv_103 iq_0_0_0 (by decide)).elim) (fun h_105 => ?_)
              refine k_aload_n X dX11_house_k5.2.2.1.1 1 rfl ?_
              refine k_iconst (v := 4) X dX11_house_k5.2.2.1.2 ic_4 ?_
              refine k_callVI (n := 1) (As := [.int 4]) (st := []) X [(cO11_i1r1i10r1i2r5i2r12i3r4i2 h0 m_thrown2_1 a_tape 0 p0 u_69 u_70 u_72 u_73 u_74 m_fault2_100 m_place2_101 m_trouble2_2 a_letters m_failed2_99 m_hasHouse a_r a_fresh a_st a_undone a_kept m_undos m_images a_from a_begin a_motor a_change a_startFrame a_changeFrame a_lostAt a_blackAt a_slips a_leftArc a_died a_arcs m_bestSum m_nearest m_nearestTown a_there a_backAt a_sorted a_parts m_seed1 m_darkNow)] [(cAI g a_r 311 d_r), (cAI g a_st 44 d_st), (cAI g a_tape 900 d_tape), (cAI g a_letters 8 uf_65), (cAI g a_fresh 311 uf_62)] [5] [0, 1, 2, 3, 4] (m_noX l g h0 4 m_thrown2_1 a_tape 0 p0 u_69 u_70 u_72 u_73 u_74 m_fault2_100 m_place2_101 m_trouble2_2 a_letters m_failed2_99 m_hasHouse a_r a_fresh a_st a_undone a_kept m_undos m_images a_from a_begin a_motor a_change a_startFrame a_changeFrame a_lostAt a_blackAt a_slips a_leftArc a_died a_arcs m_bestSum m_nearest m_nearestTown a_there a_backAt a_sorted a_parts m_seed1 m_darkNow) dX11_house_k5.2.2.2.1 mw485 mw486 mw487 mw5 mw488 rfl 11 rfl rfl 0 _ rfl yk_yX11_no_1 rfl (Nat.le_of_ble_eq_true rfl) (Nat.le_of_ble_eq_true rfl) (Nat.le_of_ble_eq_true rfl) (Nat.le_of_ble_eq_true rfl) (Nat.le_of_ble_eq_true rfl) rfl rfl (vnd_e rfl) rfl (vnd_e rfl) (dsj_e rfl) ?_
              rintro r_107 w ⟨m_trouble2_106, iv_108, hq_109, rfl⟩
              refine k_ws [(cAI g a_r 311 d_r), (cAI g a_st 44 d_st), (cAI g a_tape 900 d_tape), (cAI g a_letters 8 uf_65), (cAI g a_fresh 311 uf_62), (cO11_i1r1i10r1i2r5i2r12i3r4i2 h0 m_thrown2_1 a_tape 0 p0 u_69 u_70 u_72 u_73 u_74 m_fault2_100 m_place2_101 m_trouble2_106 a_letters m_failed2_99 m_hasHouse a_r a_fresh a_st a_undone a_kept m_undos m_images a_from a_begin a_motor a_change a_startFrame a_changeFrame a_lostAt a_blackAt a_slips a_leftArc a_died a_arcs m_bestSum m_nearest m_nearestTown a_there a_backAt a_sorted a_parts m_seed1 m_darkNow)] rfl ?_
              exact k_iret X hr dX11_house_k5.2.2.2.2 (Nat.le_of_ble_eq_true rfl) (Nat.le_of_ble_eq_true rfl) [5, 2, 3, 0, 4, 1] (vnd_e rfl) rfl rfl ⟨u_69, u_70, m_failed2_99, m_fault2_100, uf_62, m_hasHouse, m_images, uf_65, u_74, m_place2_101, d_r, p0, d_st, 0, m_thrown2_1, u_72, m_trouble2_106, m_undos, u_73, (iv_w hv_71 (zle_e rfl) (zle_e rfl)), (iv_w iv_103 (zle_e rfl) (zle_e rfl)), (iv_w hv_m_hasHouse (zle_e rfl) (zle_e rfl)), (iv_w hv_m_images (zle_e rfl) (zle_e rfl)), (iv_w hv_75 (zle_e rfl) (zle_e rfl)), (iv_w iv_15 (zle_e rfl) (zle_e rfl)), (iv_w iq_0_0_0 (zle_e rfl) (zle_e rfl)), (iv_w hv_m_undos (zle_e rfl) (zle_e rfl)), hp_d_r, hp_63, (by refine ⟨fun q => ?_, fun q => ?_⟩ <;> first | rfl | (exfalso; omega)), hr_0, (KH_1 _ _ _ _ _ _ _ _ _ _ _ _ _ _ _ _ _ _ _ _ ⟨0 + 1, (Or.inr ⟨h_81, (Or.inl ⟨h_91, (Or.inl ⟨h_93, ⟨z_96, ez_96, (Or.inl ⟨h_97, ⟨m_failed2_99, m_fault2_100, m_place2_101, hq_104, ⟨m_trouble2_106, r_107, hq_109, ⟨rfl, rfl, rfl, rfl, rfl, rfl, rfl, rfl, rfl, rfl, rfl, rfl, rfl, rfl, rfl, rfl, rfl, rfl, rfl, rfl⟩⟩⟩⟩)⟩⟩)⟩)⟩)⟩), rfl⟩
            · skip
              refine k_aload_n X dX11_house_k4.2.1.2.1 1 rfl ?_
              refine k_get (ci := 11) X inlX11 rfl 16 (nlt_e rfl) dX11_house_k4.2.1.2.2 mw171 2 rfl rfl ?_
              refine k_bipush (v := 12) X dX11_house_k4.2.2.1.1 bi_12 ?_
              refine k_iald X dX11_house_k4.2.2.1.2 5 rfl (by unfold vp_in; decide) ?_
              refine k_nm (fun z_110 ez_110 => ?_)
              have i_111 : z_110.toInt = (uf_62 12).toInt := by rw [ez_110]; rfl
              have iv_112 : IV z_110 0 8 := rb_12 ez_110 hp_63
              refine k_if_eq 164 X dX11_house_k4.2.2.2.1 (jp_e rfl) (fun h_113 => ?_) (fun h_113 => ?_)
              · skip
                have iv_114 : IV z_110 0 0 := iv_meet iv_112 (iv_e h_113 iq_0_0_0) (zle_o rfl) (zle_o rfl)
                refine k_aload_n X dX11_house_k5.1.2.1.1 1 rfl ?_
                refine k_bipush (v := 6) X dX11_house_k5.1.2.1.2 bi_6 ?_
                refine k_aload_n X dX11_house_k5.1.2.2.1 1 rfl ?_
                refine k_get (ci := 11) X inlX11 rfl 4 (nlt_e rfl) dX11_house_k5.1.2.2.2 mw473 2 rfl rfl ?_
                refine k_callVV (n := 2) (As := [.int 6, .int u_69]) (st := []) X [(cO11_i1r1i10r1i2r5i2r12i3r4i2 h0 m_thrown2_1 a_tape 0 p0 u_69 u_70 u_72 u_73 u_74 u_76 u_66 m_trouble2_2 a_letters u_67 m_hasHouse a_r a_fresh a_st a_undone a_kept m_undos m_images a_from a_begin a_motor a_change a_startFrame a_changeFrame a_lostAt a_blackAt a_slips a_leftArc a_died a_arcs m_bestSum m_nearest m_nearestTown a_there a_backAt a_sorted a_parts m_seed1 m_darkNow)] [(cAI g a_r 311 d_r), (cAI g a_st 44 d_st), (cAI g a_tape 900 d_tape), (cAI g a_letters 8 uf_65), (cAI g a_fresh 311 uf_62)] [2] [0, 1, 3, 4, 5] (m_badX l g h0 6 u_69 m_thrown2_1 a_tape 0 p0 u_69 u_70 u_72 u_73 u_74 u_76 u_66 m_trouble2_2 a_letters u_67 m_hasHouse a_r a_fresh a_st a_undone a_kept m_undos m_images a_from a_begin a_motor a_change a_startFrame a_changeFrame a_lostAt a_blackAt a_slips a_leftArc a_died a_arcs m_bestSum m_nearest m_nearestTown a_there a_backAt a_sorted a_parts m_seed1 m_darkNow (iv_w iv_90 (zle_e rfl) (zle_e rfl))) dX11_house_k5.2.1.1.1 mw519 mw520 mw521 mw5 mw522 rfl 11 rfl rfl 0 _ rfl yk_yX11_bad_2 rfl (Nat.le_of_ble_eq_true rfl) (Nat.le_of_ble_eq_true rfl) (Nat.le_of_ble_eq_true rfl) (Nat.le_of_ble_eq_true rfl) (Nat.le_of_ble_eq_true rfl) rfl rfl (vnd_e rfl) rfl (vnd_e rfl) (dsj_e rfl) ?_
                rintro w ⟨m_failed2_115, m_fault2_116, m_place2_117, iv_119, hq_120, rfl⟩
                refine k_ws [(cAI g a_r 311 d_r), (cAI g a_st 44 d_st), (cAI g a_tape 900 d_tape), (cAI g a_letters 8 uf_65), (cAI g a_fresh 311 uf_62), (cO11_i1r1i10r1i2r5i2r12i3r4i2 h0 m_thrown2_1 a_tape 0 p0 u_69 u_70 u_72 u_73 u_74 m_fault2_116 m_place2_117 m_trouble2_2 a_letters m_failed2_115 m_hasHouse a_r a_fresh a_st a_undone a_kept m_undos m_images a_from a_begin a_motor a_change a_startFrame a_changeFrame a_lostAt a_blackAt a_slips a_leftArc a_died a_arcs m_bestSum m_nearest m_nearestTown a_there a_backAt a_sorted a_parts m_seed1 m_darkNow)] rfl ?_
                refine k_aload_n X dX11_house_k5.2.1.1.2 1 rfl ?_
                refine k_get (ci := 11) X inlX11 rfl 13 (nlt_e rfl) dX11_house_k5.2.1.2.1 mw469 5 rfl rfl ?_
                refine k_if_eq 187 X dX11_house_k5.2.1.2.2 (jp_e rfl) (fun h_121 => (iv_eqN h_121 iv_119 iq_0_0_0 (by decide)).elim) (fun h_121 => ?_)
                refine k_aload_n X dX11_house_k5.2.2.1.1 1 rfl ?_
                refine k_iconst (v := 4) X dX11_house_k5.2.2.1.2 ic_4 ?_
                refine k_callVI (n := 1) (As := [.int 4]) (st := []) X [(cO11_i1r1i10r1i2r5i2r12i3r4i2 h0 m_thrown2_1 a_tape 0 p0 u_69 u_70 u_72 u_73 u_74 m_fault2_116 m_place2_117 m_trouble2_2 a_letters m_failed2_115 m_hasHouse a_r a_fresh a_st a_undone a_kept m_undos m_images a_from a_begin a_motor a_change a_startFrame a_changeFrame a_lostAt a_blackAt a_slips a_leftArc a_died a_arcs m_bestSum m_nearest m_nearestTown a_there a_backAt a_sorted a_parts m_seed1 m_darkNow)] [(cAI g a_r 311 d_r), (cAI g a_st 44 d_st), (cAI g a_tape 900 d_tape), (cAI g a_letters 8 uf_65), (cAI g a_fresh 311 uf_62)] [5] [0, 1, 2, 3, 4] (m_noX l g h0 4 m_thrown2_1 a_tape 0 p0 u_69 u_70 u_72 u_73 u_74 m_fault2_116 m_place2_117 m_trouble2_2 a_letters m_failed2_115 m_hasHouse a_r a_fresh a_st a_undone a_kept m_undos m_images a_from a_begin a_motor a_change a_startFrame a_changeFrame a_lostAt a_blackAt a_slips a_leftArc a_died a_arcs m_bestSum m_nearest m_nearestTown a_there a_backAt a_sorted a_parts m_seed1 m_darkNow) dX11_house_k5.2.2.2.1 mw485 mw486 mw487 mw5 mw488 rfl 11 rfl rfl 0 _ rfl yk_yX11_no_1 rfl (Nat.le_of_ble_eq_true rfl) (Nat.le_of_ble_eq_true rfl) (Nat.le_of_ble_eq_true rfl) (Nat.le_of_ble_eq_true rfl) (Nat.le_of_ble_eq_true rfl) rfl rfl (vnd_e rfl) rfl (vnd_e rfl) (dsj_e rfl) ?_
                rintro r_123 w ⟨m_trouble2_122, iv_124, hq_125, rfl⟩
                refine k_ws [(cAI g a_r 311 d_r), (cAI g a_st 44 d_st), (cAI g a_tape 900 d_tape), (cAI g a_letters 8 uf_65), (cAI g a_fresh 311 uf_62), (cO11_i1r1i10r1i2r5i2r12i3r4i2 h0 m_thrown2_1 a_tape 0 p0 u_69 u_70 u_72 u_73 u_74 m_fault2_116 m_place2_117 m_trouble2_122 a_letters m_failed2_115 m_hasHouse a_r a_fresh a_st a_undone a_kept m_undos m_images a_from a_begin a_motor a_change a_startFrame a_changeFrame a_lostAt a_blackAt a_slips a_leftArc a_died a_arcs m_bestSum m_nearest m_nearestTown a_there a_backAt a_sorted a_parts m_seed1 m_darkNow)] rfl ?_
                exact k_iret X hr dX11_house_k5.2.2.2.2 (Nat.le_of_ble_eq_true rfl) (Nat.le_of_ble_eq_true rfl) [5, 2, 3, 0, 4, 1] (vnd_e rfl) rfl rfl ⟨u_69, u_70, m_failed2_115, m_fault2_116, uf_62, m_hasHouse, m_images, uf_65, u_74, m_place2_117, d_r, p0, d_st, 0, m_thrown2_1, u_72, m_trouble2_122, m_undos, u_73, (iv_w hv_71 (zle_e rfl) (zle_e rfl)), (iv_w iv_119 (zle_e rfl) (zle_e rfl)), (iv_w hv_m_hasHouse (zle_e rfl) (zle_e rfl)), (iv_w hv_m_images (zle_e rfl) (zle_e rfl)), (iv_w hv_75 (zle_e rfl) (zle_e rfl)), (iv_w iv_15 (zle_e rfl) (zle_e rfl)), (iv_w iq_0_0_0 (zle_e rfl) (zle_e rfl)), (iv_w hv_m_undos (zle_e rfl) (zle_e rfl)), hp_d_r, hp_63, (by refine ⟨fun q => ?_, fun q => ?_⟩ <;> first | rfl | (exfalso; omega)), hr_0, (KH_1 _ _ _ _ _ _ _ _ _ _ _ _ _ _ _ _ _ _ _ _ ⟨0 + 1, (Or.inr ⟨h_81, (Or.inl ⟨h_91, (Or.inl ⟨h_93, ⟨z_96, ez_96, (Or.inr ⟨h_97, ⟨z_110, ez_110, (Or.inl ⟨h_113, ⟨m_failed2_115, m_fault2_116, m_place2_117, hq_120, ⟨m_trouble2_122, r_123, hq_125, ⟨rfl, rfl, rfl, rfl, rfl, rfl, rfl, rfl, rfl, rfl, rfl, rfl, rfl, rfl, rfl, rfl, rfl, rfl, rfl, rfl⟩⟩⟩⟩)⟩⟩)⟩⟩)⟩)⟩)⟩), rfl⟩
              · skip
                have iv_126 : IV z_110 1 8 := iv_neL h_113 iv_112 iq_0_0_0 (zle_e rfl)
                refine k_aload_n X dX11_house_k4.2.2.2.2 1 rfl ?_
                refine k_get (ci := 11) X inlX11 rfl 16 (nlt_e rfl) dX11_house_k5.1.1.1.1 mw171 2 rfl rfl ?_
                refine k_bipush (v := 11) X dX11_house_k5.1.1.1.2 bi_11 ?_
                refine k_iald X dX11_house_k5.1.1.2.1 5 rfl (by unfold vp_in; decide) ?_
                refine k_nm (fun z_127 ez_127 => ?_)
                have i_128 : z_127.toInt = (uf_62 11).toInt := by rw [ez_127]; rfl
                have iv_129 : IV z_127 0 4 := rb_11 ez_127 hp_63
                refine k_if_ne 174 X dX11_house_k5.1.1.2.2 (jp_e rfl) (fun h_130 => ?_) (fun h_130 => ?_)
                · skip
                  have iv_131 : IV z_127 1 4 := iv_neL h_130 iv_129 iq_0_0_0 (zle_e rfl)
                  refine k_aload_n X dX11_house_k5.2.1.1.2 1 rfl ?_
                  refine k_get (ci := 11) X inlX11 rfl 13 (nlt_e rfl) dX11_house_k5.2.1.2.1 mw469 2 rfl rfl ?_
                  refine k_if_eq 187 X dX11_house_k5.2.1.2.2 (jp_e rfl) (fun h_132 => ?_) (fun h_132 => absurd (iv_eq iv_90 iq_0_0_0) h_132)
                  refine k_aload_n X dX11_house_k6.1.1.1.1 1 rfl ?_
                  refine k_get (ci := 11) X inlX11 rfl 16 (nlt_e rfl) dX11_house_k6.1.1.1.2 mw171 2 rfl rfl ?_
                  refine k_iconst (v := 0) X dX11_house_k6.1.1.2.1 ic_0 ?_
                  refine k_aload_n X dX11_house_k6.1.1.2.2 1 rfl ?_
                  refine k_get (ci := 11) X inlX11 rfl 15 (nlt_e rfl) dX11_house_k6.1.2.1.1 mw170 2 rfl rfl ?_
                  refine k_iconst (v := 0) X dX11_house_k6.1.2.1.2 ic_0 ?_
                  refine k_sipush (v := 311) X dX11_house_k6.1.2.2.1 si_311 ?_
                  refine k_callSV (n := 5) (As := [.ref a_fresh, .int 0, .ref a_r, .int 0, .int 311]) (st := []) X [(cAI g a_fresh 311 uf_62), (cAI g a_r 311 d_r)] [(cAI g a_st 44 d_st), (cO11_i1r1i10r1i2r5i2r12i3r4i2 h0 m_thrown2_1 a_tape 0 p0 u_69 u_70 u_72 u_73 u_74 u_76 u_66 m_trouble2_2 a_letters u_67 m_hasHouse a_r a_fresh a_st a_undone a_kept m_undos m_images a_from a_begin a_motor a_change a_startFrame a_changeFrame a_lostAt a_blackAt a_slips a_leftArc a_died a_arcs m_bestSum m_nearest m_nearestTown a_there a_backAt a_sorted a_parts m_seed1 m_darkNow), (cAI g a_tape 900 d_tape), (cAI g a_letters 8 uf_65)] [5, 0] [1, 2, 3, 4] (m_copyRX l g a_fresh a_r uf_62 d_r hp_63) dX11_house_k6.1.2.2.2 mw619 mw620 mw5 mw621 yk_yX11_copy_5 rfl (Nat.le_of_ble_eq_true rfl) (Nat.le_of_ble_eq_true rfl) (Nat.le_of_ble_eq_true rfl) (Nat.le_of_ble_eq_true rfl) (Nat.le_of_ble_eq_true rfl) rfl rfl (vnd_e rfl) rfl (vnd_e rfl) (dsj_e rfl) ?_
                  rintro w ⟨f3_133, hq_135, hq_136, hq_137, rfl⟩
                  refine k_ws [(cAI g a_st 44 d_st), (cO11_i1r1i10r1i2r5i2r12i3r4i2 h0 m_thrown2_1 a_tape 0 p0 u_69 u_70 u_72 u_73 u_74 u_76 u_66 m_trouble2_2 a_letters u_67 m_hasHouse a_r a_fresh a_st a_undone a_kept m_undos m_images a_from a_begin a_motor a_change a_startFrame a_changeFrame a_lostAt a_blackAt a_slips a_leftArc a_died a_arcs m_bestSum m_nearest m_nearestTown a_there a_backAt a_sorted a_parts m_seed1 m_darkNow), (cAI g a_tape 900 d_tape), (cAI g a_letters 8 uf_65), (cAI g a_fresh 311 uf_62), (cAI g a_r 311 f3_133)] rfl ?_
                  have hT_138 : TRI f3_133 := hq_136 hT_64
                  refine k_iconst (v := 0) X dX11_house_k6.2.1.1.1 ic_0 ?_
                  refine k_istore_n [(2, .int 0), (0, .ref h0), (1, .int p0)] X dX11_house_k6.2.1.1.2 (nlt_e rfl) rfl ?_
                  refine (fun hL : ∀ (nn_142 : Nat) (uf_139 : Nat → Int32) (u_140 : Int32), (44 - u_140.toInt).toNat = nn_142 → (IV u_140 0 255) → (∀ (m_at2 : Int32) (m_end2 : Int32) (m_failed2 : Int32) (m_fault2 : Int32) (d_fresh2 : Nat → Int32) (m_hasHouse2 : Int32) (m_images2 : Int32) (d_letters2 : Nat → Int32) (m_nameSize2 : Int32) (m_place2 : Int32) (d_r2 : Nat → Int32) (m_size2 : Int32) (d_st2 : Nat → Int32) (m_taped2 : Int32) (m_thrown2 : Int32) (m_token2 : Int32) (m_trouble2 : Int32) (m_undos2 : Int32) (m_whole2 : Int32) (r : Int32), (∃ n_2 : Nat, R_m_houseX_L2 (fun (uf_139 : Nat → Int32) => ∃ n_3 : Nat, R_m_houseX_L3 f3_133 (fun (uf_148 : Nat → Int32) => ∃ n_4 : Nat, R_m_houseX_L4 f3_133 (fun (uf_159 : Nat → Int32) => ∃ n_5 : Nat, R_m_houseX_L5 f3_133 (fun (uf_170 : Nat → Int32) => ∃ n_6 : Nat, R_m_houseX_L6 f3_133 (fun (uf_181 : Nat → Int32) (z_187 : Int32) => m_at2 = u_69 ∧ m_end2 = u_70 ∧ m_failed2 = u_67 ∧ m_fault2 = u_76 ∧ d_fresh2 = uf_62 ∧ m_hasHouse2 = 1 ∧ m_images2 = 0 ∧ d_letters2 = uf_65 ∧ m_nameSize2 = u_74 ∧ m_place2 = u_66 ∧ d_r2 = f3_133 ∧ m_size2 = p0 ∧ d_st2 = uf_181 ∧ m_taped2 = 0 ∧ m_thrown2 = m_thrown2_1 ∧ m_token2 = u_72 ∧ m_trouble2 = m_trouble2_2 ∧ m_undos2 = 0 ∧ m_whole2 = u_73 ∧ r = z_187) n_6 uf_170 0) n_5 uf_159 0) n_4 uf_148 0) n_3 uf_139 0) n_2 uf_139 u_140) → R_m_houseX p0 m_taped m_size m_at m_end m_token m_whole m_nameSize m_fault m_place m_failed m_hasHouse m_undos m_images d_tape d_letters d_r d_fresh d_st m_at2 m_end2 m_failed2 m_fault2 d_fresh2 m_hasHouse2 m_images2 d_letters2 m_nameSize2 m_place2 d_r2 m_size2 d_st2 m_taped2 m_thrown2 m_token2 m_trouble2 m_undos2 m_whole2 r) → Wk p l e _ s m args below meth c _ A g _ _ _ [(cAI g a_st 44 uf_139), (cO11_i1r1i10r1i2r5i2r12i3r4i2 h0 m_thrown2_1 a_tape 0 p0 u_69 u_70 u_72 u_73 u_74 u_76 u_66 m_trouble2_2 a_letters u_67 m_hasHouse a_r a_fresh a_st a_undone a_kept m_undos m_images a_from a_begin a_motor a_change a_startFrame a_changeFrame a_lostAt a_blackAt a_slips a_leftArc a_died a_arcs m_bestSum m_nearest m_nearestTown a_there a_backAt a_sorted a_parts m_seed1 m_darkNow), (cAI g a_tape 900 d_tape), (cAI g a_letters 8 uf_65), (cAI g a_fresh 311 uf_62), (cAI g a_r 311 f3_133)] [(2, .int u_140), (0, .ref h0), (1, .int p0)] 205 [] => hL _ d_st 0 rfl (iv_w iq_0_0_0 (zle_e rfl) (zle_e rfl)) (fun m_at2 m_end2 m_failed2 m_fault2 d_fresh2 m_hasHouse2 m_images2 d_letters2 m_nameSize2 m_place2 d_r2 m_size2 d_st2 m_taped2 m_thrown2 m_token2 m_trouble2 m_undos2 m_whole2 r h => (KH_1 _ _ _ _ _ _ _ _ _ _ _ _ _ _ _ _ _ _ _ _ ⟨0 + 1, (Or.inr ⟨h_81, (Or.inl ⟨h_91, (Or.inl ⟨h_93, ⟨z_96, ez_96, (Or.inr ⟨h_97, ⟨z_110, ez_110, (Or.inr ⟨h_113, ⟨z_127, ez_127, (Or.inl ⟨h_130, ⟨f3_133, hq_137, h⟩⟩)⟩⟩)⟩⟩)⟩⟩)⟩)⟩)⟩))) ?_
                  refine fun nn_142 => Nat.strongRecOn nn_142 (fun nn_142 ih_144 => ?_)
                  intro uf_139 u_140 hm_143 hv_141 KH_2
                  refine k_iload_n X dX11_house_k6.2.1.2.1 0 rfl ?_
                  refine k_bipush (v := 44) X dX11_house_k6.2.1.2.2 bi_44 ?_
                  refine k_ic_ge 224 X dX11_house_k6.2.2.1.1 (jp_e rfl) (fun h_145 => ?_) (fun h_145 => ?_)
                  · skip
                    have j_146 : 44 ≤ u_140.toInt := iv_le h_145
                    have iv_147 : IV u_140 44 255 := iv_leR (iv_le h_145) iq_44_44_44 hv_141 (zle_e rfl)
                    refine k_iconst (v := 0) X dX11_house_k7.1.2.1.1 ic_0 ?_
                    refine k_istore_n [(2, .int 0), (0, .ref h0), (1, .int p0)] X dX11_house_k7.1.2.1.2 (nlt_e rfl) rfl ?_
                    refine (fun hL : ∀ (nn_151 : Nat) (uf_148 : Nat → Int32) (u_149 : Int32), (2147483647 - u_149.toInt).toNat = nn_151 → (IV u_149 0 8) → (∀ (m_at2 : Int32) (m_end2 : Int32) (m_failed2 : Int32) (m_fault2 : Int32) (d_fresh2 : Nat → Int32) (m_hasHouse2 : Int32) (m_images2 : Int32) (d_letters2 : Nat → Int32) (m_nameSize2 : Int32) (m_place2 : Int32) (d_r2 : Nat → Int32) (m_size2 : Int32) (d_st2 : Nat → Int32) (m_taped2 : Int32) (m_thrown2 : Int32) (m_token2 : Int32) (m_trouble2 : Int32) (m_undos2 : Int32) (m_whole2 : Int32) (r : Int32), (∃ n_3 : Nat, R_m_houseX_L3 f3_133 (fun (uf_148 : Nat → Int32) => ∃ n_4 : Nat, R_m_houseX_L4 f3_133 (fun (uf_159 : Nat → Int32) => ∃ n_5 : Nat, R_m_houseX_L5 f3_133 (fun (uf_170 : Nat → Int32) => ∃ n_6 : Nat, R_m_houseX_L6 f3_133 (fun (uf_181 : Nat → Int32) (z_187 : Int32) => m_at2 = u_69 ∧ m_end2 = u_70 ∧ m_failed2 = u_67 ∧ m_fault2 = u_76 ∧ d_fresh2 = uf_62 ∧ m_hasHouse2 = 1 ∧ m_images2 = 0 ∧ d_letters2 = uf_65 ∧ m_nameSize2 = u_74 ∧ m_place2 = u_66 ∧ d_r2 = f3_133 ∧ m_size2 = p0 ∧ d_st2 = uf_181 ∧ m_taped2 = 0 ∧ m_thrown2 = m_thrown2_1 ∧ m_token2 = u_72 ∧ m_trouble2 = m_trouble2_2 ∧ m_undos2 = 0 ∧ m_whole2 = u_73 ∧ r = z_187) n_6 uf_170 0) n_5 uf_159 0) n_4 uf_148 0) n_3 uf_148 u_149) → R_m_houseX p0 m_taped m_size m_at m_end m_token m_whole m_nameSize m_fault m_place m_failed m_hasHouse m_undos m_images d_tape d_letters d_r d_fresh d_st m_at2 m_end2 m_failed2 m_fault2 d_fresh2 m_hasHouse2 m_images2 d_letters2 m_nameSize2 m_place2 d_r2 m_size2 d_st2 m_taped2 m_thrown2 m_token2 m_trouble2 m_undos2 m_whole2 r) → Wk p l e _ s m args below meth c _ A g _ _ _ [(cAI g a_st 44 uf_148), (cO11_i1r1i10r1i2r5i2r12i3r4i2 h0 m_thrown2_1 a_tape 0 p0 u_69 u_70 u_72 u_73 u_74 u_76 u_66 m_trouble2_2 a_letters u_67 m_hasHouse a_r a_fresh a_st a_undone a_kept m_undos m_images a_from a_begin a_motor a_change a_startFrame a_changeFrame a_lostAt a_blackAt a_slips a_leftArc a_died a_arcs m_bestSum m_nearest m_nearestTown a_there a_backAt a_sorted a_parts m_seed1 m_darkNow), (cAI g a_tape 900 d_tape), (cAI g a_letters 8 uf_65), (cAI g a_fresh 311 uf_62), (cAI g a_r 311 f3_133)] [(2, .int u_149), (0, .ref h0), (1, .int p0)] 226 [] => hL _ uf_139 0 rfl (iv_w iq_0_0_0 (zle_e rfl) (zle_e rfl)) (fun m_at2 m_end2 m_failed2 m_fault2 d_fresh2 m_hasHouse2 m_images2 d_letters2 m_nameSize2 m_place2 d_r2 m_size2 d_st2 m_taped2 m_thrown2 m_token2 m_trouble2 m_undos2 m_whole2 r h => (KH_2 _ _ _ _ _ _ _ _ _ _ _ _ _ _ _ _ _ _ _ _ ⟨0 + 1, (Or.inl ⟨h_145, h⟩)⟩))) ?_
                    refine fun nn_151 => Nat.strongRecOn nn_151 (fun nn_151 ih_153 => ?_)
                    intro uf_148 u_149 hm_152 hv_150 KH_3
                    refine k_iload_n X dX11_house_k7.1.2.2.1 0 rfl ?_
                    refine k_aload_n X dX11_house_k7.1.2.2.2 1 rfl ?_
                    refine k_get (ci := 11) X inlX11 rfl 15 (nlt_e rfl) dX11_house_k7.2.1.1.1 mw170 1 rfl rfl ?_
                    refine k_bipush (v := 6) X dX11_house_k7.2.1.1.2 bi_6 ?_
                    refine k_iald X dX11_house_k7.2.1.2.1 5 rfl (by unfold vp_in; decide) ?_
                    refine k_nm (fun z_154 ez_154 => ?_)
                    have i_155 : z_154.toInt = (f3_133 6).toInt := by rw [ez_154]; rfl
                    have iv_156 : IV z_154 0 8 := rb_6 ez_154 hq_135
                    refine k_ic_ge 284 X dX11_house_k7.2.1.2.2 (jp_e rfl) (fun h_157 => ?_) (fun h_157 => ?_)
                    · skip
                      have j_158 : z_154.toInt ≤ u_149.toInt := iv_le h_157
                      refine k_iconst (v := 0) X dX11_house_k9.2.2.1.1 ic_0 ?_
                      refine k_istore_n [(2, .int 0), (0, .ref h0), (1, .int p0)] X dX11_house_k9.2.2.1.2 (nlt_e rfl) rfl ?_
                      refine (fun hL : ∀ (nn_162 : Nat) (uf_159 : Nat → Int32) (u_160 : Int32), (2147483647 - u_160.toInt).toNat = nn_162 → (IV u_160 0 255) → (∀ (m_at2 : Int32) (m_end2 : Int32) (m_failed2 : Int32) (m_fault2 : Int32) (d_fresh2 : Nat → Int32) (m_hasHouse2 : Int32) (m_images2 : Int32) (d_letters2 : Nat → Int32) (m_nameSize2 : Int32) (m_place2 : Int32) (d_r2 : Nat → Int32) (m_size2 : Int32) (d_st2 : Nat → Int32) (m_taped2 : Int32) (m_thrown2 : Int32) (m_token2 : Int32) (m_trouble2 : Int32) (m_undos2 : Int32) (m_whole2 : Int32) (r : Int32), (∃ n_4 : Nat, R_m_houseX_L4 f3_133 (fun (uf_159 : Nat → Int32) => ∃ n_5 : Nat, R_m_houseX_L5 f3_133 (fun (uf_170 : Nat → Int32) => ∃ n_6 : Nat, R_m_houseX_L6 f3_133 (fun (uf_181 : Nat → Int32) (z_187 : Int32) => m_at2 = u_69 ∧ m_end2 = u_70 ∧ m_failed2 = u_67 ∧ m_fault2 = u_76 ∧ d_fresh2 = uf_62 ∧ m_hasHouse2 = 1 ∧ m_images2 = 0 ∧ d_letters2 = uf_65 ∧ m_nameSize2 = u_74 ∧ m_place2 = u_66 ∧ d_r2 = f3_133 ∧ m_size2 = p0 ∧ d_st2 = uf_181 ∧ m_taped2 = 0 ∧ m_thrown2 = m_thrown2_1 ∧ m_token2 = u_72 ∧ m_trouble2 = m_trouble2_2 ∧ m_undos2 = 0 ∧ m_whole2 = u_73 ∧ r = z_187) n_6 uf_170 0) n_5 uf_159 0) n_4 uf_159 u_160) → R_m_houseX p0 m_taped m_size m_at m_end m_token m_whole m_nameSize m_fault m_place m_failed m_hasHouse m_undos m_images d_tape d_letters d_r d_fresh d_st m_at2 m_end2 m_failed2 m_fault2 d_fresh2 m_hasHouse2 m_images2 d_letters2 m_nameSize2 m_place2 d_r2 m_size2 d_st2 m_taped2 m_thrown2 m_token2 m_trouble2 m_undos2 m_whole2 r) → Wk p l e _ s m args below meth c _ A g _ _ _ [(cAI g a_st 44 uf_159), (cO11_i1r1i10r1i2r5i2r12i3r4i2 h0 m_thrown2_1 a_tape 0 p0 u_69 u_70 u_72 u_73 u_74 u_76 u_66 m_trouble2_2 a_letters u_67 m_hasHouse a_r a_fresh a_st a_undone a_kept m_undos m_images a_from a_begin a_motor a_change a_startFrame a_changeFrame a_lostAt a_blackAt a_slips a_leftArc a_died a_arcs m_bestSum m_nearest m_nearestTown a_there a_backAt a_sorted a_parts m_seed1 m_darkNow), (cAI g a_tape 900 d_tape), (cAI g a_letters 8 uf_65), (cAI g a_fresh 311 uf_62), (cAI g a_r 311 f3_133)] [(2, .int u_160), (0, .ref h0), (1, .int p0)] 286 [] => hL _ uf_148 0 rfl (iv_w iq_0_0_0 (zle_e rfl) (zle_e rfl)) (fun m_at2 m_end2 m_failed2 m_fault2 d_fresh2 m_hasHouse2 m_images2 d_letters2 m_nameSize2 m_place2 d_r2 m_size2 d_st2 m_taped2 m_thrown2 m_token2 m_trouble2 m_undos2 m_whole2 r h => (KH_3 _ _ _ _ _ _ _ _ _ _ _ _ _ _ _ _ _ _ _ _ ⟨0 + 1, ⟨z_154, ez_154, (Or.inl ⟨h_157, h⟩)⟩⟩))) ?_
                      refine fun nn_162 => Nat.strongRecOn nn_162 (fun nn_162 ih_164 => ?_)
                      intro uf_159 u_160 hm_163 hv_161 KH_4
                      refine k_iload_n X dX11_house_k9.2.2.2.1 0 rfl ?_
                      refine k_aload_n X dX11_house_k9.2.2.2.2 1 rfl ?_
                      refine k_get (ci := 11) X inlX11 rfl 15 (nlt_e rfl) dX11_house_k10.1.1.1.1 mw170 1 rfl rfl ?_
                      refine k_bipush (v := 8) X dX11_house_k10.1.1.1.2 bi_8 ?_
                      refine k_iald X dX11_house_k10.1.1.2.1 5 rfl (by unfold vp_in; decide) ?_
                      refine k_nm (fun z_165 ez_165 => ?_)
                      have i_166 : z_165.toInt = (f3_133 8).toInt := by rw [ez_165]; rfl
                      have iv_167 : IV z_165 0 12 := rb_8 ez_165 hq_135
                      refine k_ic_ge 325 X dX11_house_k10.1.1.2.2 (jp_e rfl) (fun h_168 => ?_) (fun h_168 => ?_)
                      · skip
                        have j_169 : z_165.toInt ≤ u_160.toInt := iv_le h_168
                        refine k_iconst (v := 0) X dX11_house_k11.1.2.2.1 ic_0 ?_
                        refine k_istore_n [(2, .int 0), (0, .ref h0), (1, .int p0)] X dX11_house_k11.1.2.2.2 (nlt_e rfl) rfl ?_
                        refine (fun hL : ∀ (nn_173 : Nat) (uf_170 : Nat → Int32) (u_171 : Int32), (2147483647 - u_171.toInt).toNat = nn_173 → (IV u_171 0 8) → (∀ (m_at2 : Int32) (m_end2 : Int32) (m_failed2 : Int32) (m_fault2 : Int32) (d_fresh2 : Nat → Int32) (m_hasHouse2 : Int32) (m_images2 : Int32) (d_letters2 : Nat → Int32) (m_nameSize2 : Int32) (m_place2 : Int32) (d_r2 : Nat → Int32) (m_size2 : Int32) (d_st2 : Nat → Int32) (m_taped2 : Int32) (m_thrown2 : Int32) (m_token2 : Int32) (m_trouble2 : Int32) (m_undos2 : Int32) (m_whole2 : Int32) (r : Int32), (∃ n_5 : Nat, R_m_houseX_L5 f3_133 (fun (uf_170 : Nat → Int32) => ∃ n_6 : Nat, R_m_houseX_L6 f3_133 (fun (uf_181 : Nat → Int32) (z_187 : Int32) => m_at2 = u_69 ∧ m_end2 = u_70 ∧ m_failed2 = u_67 ∧ m_fault2 = u_76 ∧ d_fresh2 = uf_62 ∧ m_hasHouse2 = 1 ∧ m_images2 = 0 ∧ d_letters2 = uf_65 ∧ m_nameSize2 = u_74 ∧ m_place2 = u_66 ∧ d_r2 = f3_133 ∧ m_size2 = p0 ∧ d_st2 = uf_181 ∧ m_taped2 = 0 ∧ m_thrown2 = m_thrown2_1 ∧ m_token2 = u_72 ∧ m_trouble2 = m_trouble2_2 ∧ m_undos2 = 0 ∧ m_whole2 = u_73 ∧ r = z_187) n_6 uf_170 0) n_5 uf_170 u_171) → R_m_houseX p0 m_taped m_size m_at m_end m_token m_whole m_nameSize m_fault m_place m_failed m_hasHouse m_undos m_images d_tape d_letters d_r d_fresh d_st m_at2 m_end2 m_failed2 m_fault2 d_fresh2 m_hasHouse2 m_images2 d_letters2 m_nameSize2 m_place2 d_r2 m_size2 d_st2 m_taped2 m_thrown2 m_token2 m_trouble2 m_undos2 m_whole2 r) → Wk p l e _ s m args below meth c _ A g _ _ _ [(cAI g a_st 44 uf_170), (cO11_i1r1i10r1i2r5i2r12i3r4i2 h0 m_thrown2_1 a_tape 0 p0 u_69 u_70 u_72 u_73 u_74 u_76 u_66 m_trouble2_2 a_letters u_67 m_hasHouse a_r a_fresh a_st a_undone a_kept m_undos m_images a_from a_begin a_motor a_change a_startFrame a_changeFrame a_lostAt a_blackAt a_slips a_leftArc a_died a_arcs m_bestSum m_nearest m_nearestTown a_there a_backAt a_sorted a_parts m_seed1 m_darkNow), (cAI g a_tape 900 d_tape), (cAI g a_letters 8 uf_65), (cAI g a_fresh 311 uf_62), (cAI g a_r 311 f3_133)] [(2, .int u_171), (0, .ref h0), (1, .int p0)] 327 [] => hL _ uf_159 0 rfl (iv_w iq_0_0_0 (zle_e rfl) (zle_e rfl)) (fun m_at2 m_end2 m_failed2 m_fault2 d_fresh2 m_hasHouse2 m_images2 d_letters2 m_nameSize2 m_place2 d_r2 m_size2 d_st2 m_taped2 m_thrown2 m_token2 m_trouble2 m_undos2 m_whole2 r h => (KH_4 _ _ _ _ _ _ _ _ _ _ _ _ _ _ _ _ _ _ _ _ ⟨0 + 1, ⟨z_165, ez_165, (Or.inl ⟨h_168, h⟩)⟩⟩))) ?_
                        refine fun nn_173 => Nat.strongRecOn nn_173 (fun nn_173 ih_175 => ?_)
                        intro uf_170 u_171 hm_174 hv_172 KH_5
                        refine k_iload_n X dX11_house_k11.2.1.1.1 0 rfl ?_
                        refine k_aload_n X dX11_house_k11.2.1.1.2 1 rfl ?_
                        refine k_get (ci := 11) X inlX11 rfl 15 (nlt_e rfl) dX11_house_k11.2.1.2.1 mw170 1 rfl rfl ?_
                        refine k_bipush (v := 10) X dX11_house_k11.2.1.2.2 bi_10 ?_
                        refine k_iald X dX11_house_k11.2.2.1.1 5 rfl (by unfold vp_in; decide) ?_
                        refine k_nm (fun z_176 ez_176 => ?_)
                        have i_177 : z_176.toInt = (f3_133 10).toInt := by rw [ez_176]; rfl
                        have iv_178 : IV z_176 0 6 := rb_10 ez_176 hq_135
                        refine k_ic_ge 366 X dX11_house_k11.2.2.1.2 (jp_e rfl) (fun h_179 => ?_) (fun h_179 => ?_)
                        · skip
                          have j_180 : z_176.toInt ≤ u_171.toInt := iv_le h_179
                          refine k_iconst (v := 0) X dX11_house_k13.1.1.1.1 ic_0 ?_
                          refine k_istore_n [(2, .int 0), (0, .ref h0), (1, .int p0)] X dX11_house_k13.1.1.1.2 (nlt_e rfl) rfl ?_
                          refine (fun hL : ∀ (nn_184 : Nat) (uf_181 : Nat → Int32) (u_182 : Int32), (2147483647 - u_182.toInt).toNat = nn_184 → (IV u_182 0 8) → (∀ (m_at2 : Int32) (m_end2 : Int32) (m_failed2 : Int32) (m_fault2 : Int32) (d_fresh2 : Nat → Int32) (m_hasHouse2 : Int32) (m_images2 : Int32) (d_letters2 : Nat → Int32) (m_nameSize2 : Int32) (m_place2 : Int32) (d_r2 : Nat → Int32) (m_size2 : Int32) (d_st2 : Nat → Int32) (m_taped2 : Int32) (m_thrown2 : Int32) (m_token2 : Int32) (m_trouble2 : Int32) (m_undos2 : Int32) (m_whole2 : Int32) (r : Int32), (∃ n_6 : Nat, R_m_houseX_L6 f3_133 (fun (uf_181 : Nat → Int32) (z_187 : Int32) => m_at2 = u_69 ∧ m_end2 = u_70 ∧ m_failed2 = u_67 ∧ m_fault2 = u_76 ∧ d_fresh2 = uf_62 ∧ m_hasHouse2 = 1 ∧ m_images2 = 0 ∧ d_letters2 = uf_65 ∧ m_nameSize2 = u_74 ∧ m_place2 = u_66 ∧ d_r2 = f3_133 ∧ m_size2 = p0 ∧ d_st2 = uf_181 ∧ m_taped2 = 0 ∧ m_thrown2 = m_thrown2_1 ∧ m_token2 = u_72 ∧ m_trouble2 = m_trouble2_2 ∧ m_undos2 = 0 ∧ m_whole2 = u_73 ∧ r = z_187) n_6 uf_181 u_182) → R_m_houseX p0 m_taped m_size m_at m_end m_token m_whole m_nameSize m_fault m_place m_failed m_hasHouse m_undos m_images d_tape d_letters d_r d_fresh d_st m_at2 m_end2 m_failed2 m_fault2 d_fresh2 m_hasHouse2 m_images2 d_letters2 m_nameSize2 m_place2 d_r2 m_size2 d_st2 m_taped2 m_thrown2 m_token2 m_trouble2 m_undos2 m_whole2 r) → Wk p l e _ s m args below meth c _ A g _ _ _ [(cAI g a_st 44 uf_181), (cO11_i1r1i10r1i2r5i2r12i3r4i2 h0 m_thrown2_1 a_tape 0 p0 u_69 u_70 u_72 u_73 u_74 u_76 u_66 m_trouble2_2 a_letters u_67 m_hasHouse a_r a_fresh a_st a_undone a_kept m_undos m_images a_from a_begin a_motor a_change a_startFrame a_changeFrame a_lostAt a_blackAt a_slips a_leftArc a_died a_arcs m_bestSum m_nearest m_nearestTown a_there a_backAt a_sorted a_parts m_seed1 m_darkNow), (cAI g a_tape 900 d_tape), (cAI g a_letters 8 uf_65), (cAI g a_fresh 311 uf_62), (cAI g a_r 311 f3_133)] [(2, .int u_182), (0, .ref h0), (1, .int p0)] 368 [] => hL _ uf_170 0 rfl (iv_w iq_0_0_0 (zle_e rfl) (zle_e rfl)) (fun m_at2 m_end2 m_failed2 m_fault2 d_fresh2 m_hasHouse2 m_images2 d_letters2 m_nameSize2 m_place2 d_r2 m_size2 d_st2 m_taped2 m_thrown2 m_token2 m_trouble2 m_undos2 m_whole2 r h => (KH_5 _ _ _ _ _ _ _ _ _ _ _ _ _ _ _ _ _ _ _ _ ⟨0 + 1, ⟨z_176, ez_176, (Or.inl ⟨h_179, h⟩)⟩⟩))) ?_
                          refine fun nn_184 => Nat.strongRecOn nn_184 (fun nn_184 ih_186 => ?_)
                          intro uf_181 u_182 hm_185 hv_183 KH_6
                          refine k_iload_n X dX11_house_k13.1.1.2.1 0 rfl ?_
                          refine k_aload_n X dX11_house_k13.1.1.2.2 1 rfl ?_
                          refine k_get (ci := 11) X inlX11 rfl 15 (nlt_e rfl) dX11_house_k13.1.2.1.1 mw170 1 rfl rfl ?_
                          refine k_bipush (v := 12) X dX11_house_k13.1.2.1.2 bi_12 ?_
                          refine k_iald X dX11_house_k13.1.2.2.1 5 rfl (by unfold vp_in; decide) ?_
                          refine k_nm (fun z_187 ez_187 => ?_)
                          have i_188 : z_187.toInt = (f3_133 12).toInt := by rw [ez_187]; rfl
                          have iv_189 : IV z_187 0 8 := rb_12 ez_187 hq_135
                          refine k_ic_ge 400 X dX11_house_k13.1.2.2.2 (jp_e rfl) (fun h_190 => ?_) (fun h_190 => ?_)
                          · skip
                            have j_191 : z_187.toInt ≤ u_182.toInt := iv_le h_190
                            refine k_aload_n X dX11_house_k14.1.2.1.1 1 rfl ?_
                            refine k_iconst (v := 1) X dX11_house_k14.1.2.1.2 ic_1 ?_
                            refine k_put (ci := 11) [(cAI g a_st 44 uf_181), (cO11_i1r1i10r1i2r5i2r12i3r4i2 h0 m_thrown2_1 a_tape 0 p0 u_69 u_70 u_72 u_73 u_74 u_76 u_66 m_trouble2_2 a_letters u_67 1 a_r a_fresh a_st a_undone a_kept m_undos m_images a_from a_begin a_motor a_change a_startFrame a_changeFrame a_lostAt a_blackAt a_slips a_leftArc a_died a_arcs m_bestSum m_nearest m_nearestTown a_there a_backAt a_sorted a_parts m_seed1 m_darkNow), (cAI g a_tape 900 d_tape), (cAI g a_letters 8 uf_65), (cAI g a_fresh 311 uf_62), (cAI g a_r 311 f3_133)] X inlX11 rfl tyX11_ok nmX11 14 (nlt_e rfl) rfl dX11_house_k14.1.2.2.1 mw474 1 rfl (by decide) (by decide) (Nat.le_of_ble_eq_true rfl) rfl ?_
                            refine k_aload_n X dX11_house_k14.1.2.2.2 1 rfl ?_
                            refine k_iconst (v := 0) X dX11_house_k14.2.1.1.1 ic_0 ?_
                            refine k_put (ci := 11) [(cAI g a_st 44 uf_181), (cO11_i1r1i10r1i2r5i2r12i3r4i2 h0 m_thrown2_1 a_tape 0 p0 u_69 u_70 u_72 u_73 u_74 u_76 u_66 m_trouble2_2 a_letters u_67 1 a_r a_fresh a_st a_undone a_kept 0 m_images a_from a_begin a_motor a_change a_startFrame a_changeFrame a_lostAt a_blackAt a_slips a_leftArc a_died a_arcs m_bestSum m_nearest m_nearestTown a_there a_backAt a_sorted a_parts m_seed1 m_darkNow), (cAI g a_tape 900 d_tape), (cAI g a_letters 8 uf_65), (cAI g a_fresh 311 uf_62), (cAI g a_r 311 f3_133)] X inlX11 rfl tyX11_ok nmX11 20 (nlt_e rfl) rfl dX11_house_k14.2.1.1.2 mw475 1 rfl rfl rfl (Nat.le_of_ble_eq_true rfl) rfl ?_
                            refine k_aload_n X dX11_house_k14.2.1.2.1 1 rfl ?_
                            refine k_iconst (v := 0) X dX11_house_k14.2.1.2.2 ic_0 ?_
                            refine k_put (ci := 11) [(cAI g a_st 44 uf_181), (cO11_i1r1i10r1i2r5i2r12i3r4i2 h0 m_thrown2_1 a_tape 0 p0 u_69 u_70 u_72 u_73 u_74 u_76 u_66 m_trouble2_2 a_letters u_67 1 a_r a_fresh a_st a_undone a_kept 0 0 a_from a_begin a_motor a_change a_startFrame a_changeFrame a_lostAt a_blackAt a_slips a_leftArc a_died a_arcs m_bestSum m_nearest m_nearestTown a_there a_backAt a_sorted a_parts m_seed1 m_darkNow), (cAI g a_tape 900 d_tape), (cAI g a_letters 8 uf_65), (cAI g a_fresh 311 uf_62), (cAI g a_r 311 f3_133)] X inlX11 rfl tyX11_ok nmX11 21 (nlt_e rfl) rfl dX11_house_k14.2.2.1.1 mw476 1 rfl rfl rfl (Nat.le_of_ble_eq_true rfl) rfl ?_
                            refine k_aload_n X dX11_house_k14.2.2.1.2 1 rfl ?_
                            refine k_get (ci := 11) X inlX11 rfl 15 (nlt_e rfl) dX11_house_k14.2.2.2.1 mw170 1 rfl rfl ?_
                            refine k_bipush (v := 12) X dX11_house_k14.2.2.2.2 bi_12 ?_
                            refine k_iald X dX11_house_k15.1 5 rfl (by unfold vp_in; decide) ?_
                            refine k_to z_187 ez_187.symm ?_
                            exact k_iret X hr dX11_house_k15.2 (Nat.le_of_ble_eq_true rfl) (Nat.le_of_ble_eq_true rfl) [1, 2, 3, 5, 4, 0] (vnd_e rfl) rfl rfl ⟨u_69, u_70, u_67, u_76, uf_62, 1, 0, uf_65, u_74, u_66, f3_133, p0, uf_181, 0, m_thrown2_1, u_72, m_trouble2_2, 0, u_73, (iv_w hv_71 (zle_e rfl) (zle_e rfl)), (iv_w iv_90 (zle_e rfl) (zle_e rfl)), (iv_w iq_1_1_1 (zle_e rfl) (zle_e rfl)), (iv_w iq_0_0_0 (zle_e rfl) (zle_e rfl)), (iv_w hv_75 (zle_e rfl) (zle_e rfl)), (iv_w iv_15 (zle_e rfl) (zle_e rfl)), (iv_w iq_0_0_0 (zle_e rfl) (zle_e rfl)), (iv_w iq_0_0_0 (zle_e rfl) (zle_e rfl)), hq_135, hp_63, (by refine ⟨fun q => ?_, fun q => ?_⟩ <;> first | rfl | (exfalso; omega)), hT_138, (KH_6 _ _ _ _ _ _ _ _ _ _ _ _ _ _ _ _ _ _ _ _ ⟨0 + 1, ⟨z_187, ez_187, (Or.inl ⟨h_190, ⟨rfl, rfl, rfl, rfl, rfl, rfl, rfl, rfl, rfl, rfl, rfl, rfl, rfl, rfl, rfl, rfl, rfl, rfl, rfl, rfl⟩⟩)⟩⟩), rfl⟩
                          · skip
                            have j_192 : u_182.toInt < z_187.toInt := iv_nle h_190
                            have iv_193 : IV u_182 0 7 := iv_ltL (iv_nle h_190) hv_183 iv_189 (zle_e rfl)
                            have iv_194 : IV z_187 1 8 := iv_ltR (iv_nle h_190) hv_183 iv_189 (zle_e rfl)
                            refine k_aload_n X dX11_house_k13.2.1.1.1 1 rfl ?_
                            refine k_get (ci := 11) X inlX11 rfl 17 (nlt_e rfl) dX11_house_k13.2.1.1.2 mw172 1 rfl rfl ?_
                            refine k_bipush (v := 34) X dX11_house_k13.2.1.2.1 bi_34 ?_
                            refine k_iload_n X dX11_house_k13.2.1.2.2 0 rfl ?_
                            refine k_iadd X dX11_house_k13.2.2.1.1 ?_
                            refine k_nm (fun z_195 ez_195 => ?_)
                            have i_196 : z_195.toInt = 34 + u_182.toInt := in_add ez_195 iq_34_34_34 iv_193 (zle_e rfl) (zle_e rfl)
                            have iv_197 : IV z_195 34 41 := iz2 i_196 iv_193 (zle_e rfl) (zle_e rfl)
                            refine k_aload_n X dX11_house_k13.2.2.1.2 1 rfl ?_
                            refine k_get (ci := 11) X inlX11 rfl 15 (nlt_e rfl) dX11_house_k13.2.2.2.1 mw170 1 rfl rfl ?_
                            refine k_iconst (v := 2) X dX11_house_k13.2.2.2.2 ic_2 ?_
                            refine k_iald X dX11_house_k14.1.1.1.1 5 rfl (by unfold vp_in; decide) ?_
                            refine k_nm (fun z_198 ez_198 => ?_)
                            refine k_iast [(cAI g a_st 44 (upd uf_181 (z_195 : Int32).toNatClampNeg z_198)), (cO11_i1r1i10r1i2r5i2r12i3r4i2 h0 m_thrown2_1 a_tape 0 p0 u_69 u_70 u_72 u_73 u_74 u_76 u_66 m_trouble2_2 a_letters u_67 m_hasHouse a_r a_fresh a_st a_undone a_kept m_undos m_images a_from a_begin a_motor a_change a_startFrame a_changeFrame a_lostAt a_blackAt a_slips a_leftArc a_died a_arcs m_bestSum m_nearest m_nearestTown a_there a_backAt a_sorted a_parts m_seed1 m_darkNow), (cAI g a_tape 900 d_tape), (cAI g a_letters 8 uf_65), (cAI g a_fresh 311 uf_62), (cAI g a_r 311 f3_133)] X dX11_house_k14.1.1.1.2 0 rfl (iv_in iv_197 (zle_e rfl) (zle_l rfl)) rfl ?_
                            obtain ⟨z_200, ez_200⟩ : ∃ y : Int32, u_182 + Int32.ofInt 1 = y := ⟨_, rfl⟩
                            refine k_iinc z_200 [(2, .int z_200), (0, .ref h0), (1, .int p0)] 0 X dX11_house_k14.1.1.2.1 rfl ez_200 (nlt_e rfl) rfl ?_
                            have i_201 : z_200.toInt = u_182.toInt + 1 := in_inc ez_200 (oin_e rfl) iv_193 (zle_e rfl) (zle_e rfl)
                            have iv_202 : IV z_200 1 8 := iz1 i_201 iv_193 (zle_e rfl) (zle_e rfl)
                            refine k_goto 368 X dX11_house_k14.1.1.2.2 (jp_e rfl) ?_
                            exact ih_186 _ (by omega) ((upd uf_181 (z_195 : Int32).toNatClampNeg z_198)) z_200 rfl (iv_w iv_202 (zle_e rfl) (zle_e rfl)) (fun m_at2 m_end2 m_failed2 m_fault2 d_fresh2 m_hasHouse2 m_images2 d_letters2 m_nameSize2 m_place2 d_r2 m_size2 d_st2 m_taped2 m_thrown2 m_token2 m_trouble2 m_undos2 m_whole2 r h => h.elim (fun n_6 q => (KH_6 _ _ _ _ _ _ _ _ _ _ _ _ _ _ _ _ _ _ _ _ ⟨n_6 + 1, ⟨z_187, ez_187, (Or.inr ⟨h_190, ⟨z_195, ez_195, ⟨z_198, ez_198, ⟨z_200, ez_200, q⟩⟩⟩⟩)⟩⟩)))
                        · skip
                          have j_203 : u_171.toInt < z_176.toInt := iv_nle h_179
                          have iv_204 : IV u_171 0 5 := iv_ltL (iv_nle h_179) hv_172 iv_178 (zle_e rfl)
                          have iv_205 : IV z_176 1 6 := iv_ltR (iv_nle h_179) hv_172 iv_178 (zle_e rfl)
                          refine k_aload_n X dX11_house_k11.2.2.2.1 1 rfl ?_
                          refine k_get (ci := 11) X inlX11 rfl 17 (nlt_e rfl) dX11_house_k11.2.2.2.2 mw172 1 rfl rfl ?_
                          refine k_bipush (v := 28) X dX11_house_k12.1.1.1.1 bi_28 ?_
                          refine k_iload_n X dX11_house_k12.1.1.1.2 0 rfl ?_
                          refine k_iadd X dX11_house_k12.1.1.2.1 ?_
                          refine k_nm (fun z_206 ez_206 => ?_)
                          have i_207 : z_206.toInt = 28 + u_171.toInt := in_add ez_206 iq_28_28_28 iv_204 (zle_e rfl) (zle_e rfl)
                          have iv_208 : IV z_206 28 33 := iz2 i_207 iv_204 (zle_e rfl) (zle_e rfl)
                          refine k_aload_n X dX11_house_k12.1.1.2.2 1 rfl ?_
                          refine k_get (ci := 11) X inlX11 rfl 15 (nlt_e rfl) dX11_house_k12.1.2.1.1 mw170 1 rfl rfl ?_
                          refine k_bipush (v := 96) X dX11_house_k12.1.2.1.2 bi_96 ?_
                          refine k_iconst (v := 3) X dX11_house_k12.1.2.2.1 ic_3 ?_
                          refine k_iload_n X dX11_house_k12.1.2.2.2 0 rfl ?_
                          refine k_imul X dX11_house_k12.2.1.1.1 ?_
                          refine k_nm (fun z_209 ez_209 => ?_)
                          have i_210 : z_209.toInt = 3 * u_171.toInt := in_mul ez_209 (by decide) (zle_e rfl) iv_204 (zle_e rfl) (zle_e rfl)
                          have iv_211 : IV z_209 0 15 := iz4 i_210 iv_204 (zle_e rfl) (zle_e rfl) (zle_e rfl)
                          refine k_iadd X dX11_house_k12.2.1.1.2 ?_
                          refine k_nm (fun z_212 ez_212 => ?_)
                          have i_213 : z_212.toInt = 96 + z_209.toInt := in_add ez_212 iq_96_96_96 iv_211 (zle_e rfl) (zle_e rfl)
                          have iv_214 : IV z_212 96 111 := iz2 i_213 iv_211 (zle_e rfl) (zle_e rfl)
                          refine k_iconst (v := 1) X dX11_house_k12.2.1.2.1 ic_1 ?_
                          refine k_iadd X dX11_house_k12.2.1.2.2 ?_
                          refine k_nm (fun z_215 ez_215 => ?_)
                          have i_216 : z_215.toInt = z_212.toInt + 1 := in_add ez_215 iv_214 iq_1_1_1 (zle_e rfl) (zle_e rfl)
                          have iv_217 : IV z_215 97 112 := iz1 i_216 iv_214 (zle_e rfl) (zle_e rfl)
                          refine k_iald X dX11_house_k12.2.2.1.1 5 rfl (iv_in iv_217 (zle_e rfl) (zle_l rfl)) ?_
                          refine k_nm (fun z_218 ez_218 => ?_)
                          refine k_iast [(cAI g a_st 44 (upd uf_170 (z_206 : Int32).toNatClampNeg z_218)), (cO11_i1r1i10r1i2r5i2r12i3r4i2 h0 m_thrown2_1 a_tape 0 p0 u_69 u_70 u_72 u_73 u_74 u_76 u_66 m_trouble2_2 a_letters u_67 m_hasHouse a_r a_fresh a_st a_undone a_kept m_undos m_images a_from a_begin a_motor a_change a_startFrame a_changeFrame a_lostAt a_blackAt a_slips a_leftArc a_died a_arcs m_bestSum m_nearest m_nearestTown a_there a_backAt a_sorted a_parts m_seed1 m_darkNow), (cAI g a_tape 900 d_tape), (cAI g a_letters 8 uf_65), (cAI g a_fresh 311 uf_62), (cAI g a_r 311 f3_133)] X dX11_house_k12.2.2.1.2 0 rfl (iv_in iv_208 (zle_e rfl) (zle_l rfl)) rfl ?_
                          obtain ⟨z_220, ez_220⟩ : ∃ y : Int32, u_171 + Int32.ofInt 1 = y := ⟨_, rfl⟩
                          refine k_iinc z_220 [(2, .int z_220), (0, .ref h0), (1, .int p0)] 0 X dX11_house_k12.2.2.2.1 rfl ez_220 (nlt_e rfl) rfl ?_
                          have i_221 : z_220.toInt = u_171.toInt + 1 := in_inc ez_220 (oin_e rfl) iv_204 (zle_e rfl) (zle_e rfl)
                          have iv_222 : IV z_220 1 6 := iz1 i_221 iv_204 (zle_e rfl) (zle_e rfl)
                          refine k_goto 327 X dX11_house_k12.2.2.2.2 (jp_e rfl) ?_
                          exact ih_175 _ (by omega) ((upd uf_170 (z_206 : Int32).toNatClampNeg z_218)) z_220 rfl (iv_w iv_222 (zle_e rfl) (zle_e rfl)) (fun m_at2 m_end2 m_failed2 m_fault2 d_fresh2 m_hasHouse2 m_images2 d_letters2 m_nameSize2 m_place2 d_r2 m_size2 d_st2 m_taped2 m_thrown2 m_token2 m_trouble2 m_undos2 m_whole2 r h => h.elim (fun n_5 q => (KH_5 _ _ _ _ _ _ _ _ _ _ _ _ _ _ _ _ _ _ _ _ ⟨n_5 + 1, ⟨z_176, ez_176, (Or.inr ⟨h_179, ⟨z_206, ez_206, ⟨z_209, ez_209, ⟨z_212, ez_212, ⟨z_215, ez_215, ⟨z_218, ez_218, ⟨z_220, ez_220, q⟩⟩⟩⟩⟩⟩⟩)⟩⟩)))
                      · skip
                        have j_223 : u_160.toInt < z_165.toInt := iv_nle h_168
                        have iv_224 : IV u_160 0 11 := iv_ltL (iv_nle h_168) hv_161 iv_167 (zle_e rfl)
                        have iv_225 : IV z_165 1 12 := iv_ltR (iv_nle h_168) hv_161 iv_167 (zle_e rfl)
                        refine k_aload_n X dX11_house_k10.1.2.1.1 1 rfl ?_
                        refine k_get (ci := 11) X inlX11 rfl 17 (nlt_e rfl) dX11_house_k10.1.2.1.2 mw172 1 rfl rfl ?_
                        refine k_bipush (v := 16) X dX11_house_k10.1.2.2.1 bi_16 ?_
                        refine k_iload_n X dX11_house_k10.1.2.2.2 0 rfl ?_
                        refine k_iadd X dX11_house_k10.2.1.1.1 ?_
                        refine k_nm (fun z_226 ez_226 => ?_)
                        have i_227 : z_226.toInt = 16 + u_160.toInt := in_add ez_226 iq_16_16_16 iv_224 (zle_e rfl) (zle_e rfl)
                        have iv_228 : IV z_226 16 27 := iz2 i_227 iv_224 (zle_e rfl) (zle_e rfl)
                        refine k_aload_n X dX11_house_k10.2.1.1.2 1 rfl ?_
                        refine k_get (ci := 11) X inlX11 rfl 15 (nlt_e rfl) dX11_house_k10.2.1.2.1 mw170 1 rfl rfl ?_
                        refine k_bipush (v := 44) X dX11_house_k10.2.1.2.2 bi_44 ?_
                        refine k_iconst (v := 3) X dX11_house_k10.2.2.1.1 ic_3 ?_
                        refine k_iload_n X dX11_house_k10.2.2.1.2 0 rfl ?_
                        refine k_imul X dX11_house_k10.2.2.2.1 ?_
                        refine k_nm (fun z_229 ez_229 => ?_)
                        have i_230 : z_229.toInt = 3 * u_160.toInt := in_mul ez_229 (by decide) (zle_e rfl) iv_224 (zle_e rfl) (zle_e rfl)
                        have iv_231 : IV z_229 0 33 := iz4 i_230 iv_224 (zle_e rfl) (zle_e rfl) (zle_e rfl)
                        refine k_iadd X dX11_house_k10.2.2.2.2 ?_
                        refine k_nm (fun z_232 ez_232 => ?_)
                        have i_233 : z_232.toInt = 44 + z_229.toInt := in_add ez_232 iq_44_44_44 iv_231 (zle_e rfl) (zle_e rfl)
                        have iv_234 : IV z_232 44 77 := iz2 i_233 iv_231 (zle_e rfl) (zle_e rfl)
                        refine k_iconst (v := 1) X dX11_house_k11.1.1.1.1 ic_1 ?_
                        refine k_iadd X dX11_house_k11.1.1.1.2 ?_
                        refine k_nm (fun z_235 ez_235 => ?_)
                        have i_236 : z_235.toInt = z_232.toInt + 1 := in_add ez_235 iv_234 iq_1_1_1 (zle_e rfl) (zle_e rfl)
                        have iv_237 : IV z_235 45 78 := iz1 i_236 iv_234 (zle_e rfl) (zle_e rfl)
                        refine k_iald X dX11_house_k11.1.1.2.1 5 rfl (iv_in iv_237 (zle_e rfl) (zle_l rfl)) ?_
                        refine k_nm (fun z_238 ez_238 => ?_)
                        refine k_iast [(cAI g a_st 44 (upd uf_159 (z_226 : Int32).toNatClampNeg z_238)), (cO11_i1r1i10r1i2r5i2r12i3r4i2 h0 m_thrown2_1 a_tape 0 p0 u_69 u_70 u_72 u_73 u_74 u_76 u_66 m_trouble2_2 a_letters u_67 m_hasHouse a_r a_fresh a_st a_undone a_kept m_undos m_images a_from a_begin a_motor a_change a_startFrame a_changeFrame a_lostAt a_blackAt a_slips a_leftArc a_died a_arcs m_bestSum m_nearest m_nearestTown a_there a_backAt a_sorted a_parts m_seed1 m_darkNow), (cAI g a_tape 900 d_tape), (cAI g a_letters 8 uf_65), (cAI g a_fresh 311 uf_62), (cAI g a_r 311 f3_133)] X dX11_house_k11.1.1.2.2 0 rfl (iv_in iv_228 (zle_e rfl) (zle_l rfl)) rfl ?_
                        obtain ⟨z_240, ez_240⟩ : ∃ y : Int32, u_160 + Int32.ofInt 1 = y := ⟨_, rfl⟩
                        refine k_iinc z_240 [(2, .int z_240), (0, .ref h0), (1, .int p0)] 0 X dX11_house_k11.1.2.1.1 rfl ez_240 (nlt_e rfl) rfl ?_
                        have i_241 : z_240.toInt = u_160.toInt + 1 := in_inc ez_240 (oin_e rfl) iv_224 (zle_e rfl) (zle_e rfl)
                        have iv_242 : IV z_240 1 12 := iz1 i_241 iv_224 (zle_e rfl) (zle_e rfl)
                        refine k_goto 286 X dX11_house_k11.1.2.1.2 (jp_e rfl) ?_
                        exact ih_164 _ (by omega) ((upd uf_159 (z_226 : Int32).toNatClampNeg z_238)) z_240 rfl (iv_w iv_242 (zle_e rfl) (zle_e rfl)) (fun m_at2 m_end2 m_failed2 m_fault2 d_fresh2 m_hasHouse2 m_images2 d_letters2 m_nameSize2 m_place2 d_r2 m_size2 d_st2 m_taped2 m_thrown2 m_token2 m_trouble2 m_undos2 m_whole2 r h => h.elim (fun n_4 q => (KH_4 _ _ _ _ _ _ _ _ _ _ _ _ _ _ _ _ _ _ _ _ ⟨n_4 + 1, ⟨z_165, ez_165, (Or.inr ⟨h_168, ⟨z_226, ez_226, ⟨z_229, ez_229, ⟨z_232, ez_232, ⟨z_235, ez_235, ⟨z_238, ez_238, ⟨z_240, ez_240, q⟩⟩⟩⟩⟩⟩⟩)⟩⟩)))
                    · skip
                      have j_243 : u_149.toInt < z_154.toInt := iv_nle h_157
                      have iv_244 : IV u_149 0 7 := iv_ltL (iv_nle h_157) hv_150 iv_156 (zle_e rfl)
                      have iv_245 : IV z_154 1 8 := iv_ltR (iv_nle h_157) hv_150 iv_156 (zle_e rfl)
                      refine k_aload_n X dX11_house_k7.2.2.1.1 1 rfl ?_
                      refine k_get (ci := 11) X inlX11 rfl 17 (nlt_e rfl) dX11_house_k7.2.2.1.2 mw172 1 rfl rfl ?_
                      refine k_iconst (v := 0) X dX11_house_k7.2.2.2.1 ic_0 ?_
                      refine k_iload_n X dX11_house_k7.2.2.2.2 0 rfl ?_
                      refine k_iadd X dX11_house_k8.1.1.1.1 ?_
                      refine k_nm (fun z_246 ez_246 => ?_)
                      have i_247 : z_246.toInt = 0 + u_149.toInt := in_add ez_246 iq_0_0_0 iv_244 (zle_e rfl) (zle_e rfl)
                      have iv_248 : IV z_246 0 7 := iz2 i_247 iv_244 (zle_e rfl) (zle_e rfl)
                      refine k_aload_n X dX11_house_k8.1.1.1.2 1 rfl ?_
                      refine k_get (ci := 11) X inlX11 rfl 15 (nlt_e rfl) dX11_house_k8.1.1.2.1 mw170 1 rfl rfl ?_
                      refine k_bipush (v := 16) X dX11_house_k8.1.1.2.2 bi_16 ?_
                      refine k_iconst (v := 3) X dX11_house_k8.1.2.1.1 ic_3 ?_
                      refine k_iload_n X dX11_house_k8.1.2.1.2 0 rfl ?_
                      refine k_imul X dX11_house_k8.1.2.2.1 ?_
                      refine k_nm (fun z_249 ez_249 => ?_)
                      have i_250 : z_249.toInt = 3 * u_149.toInt := in_mul ez_249 (by decide) (zle_e rfl) iv_244 (zle_e rfl) (zle_e rfl)
                      have iv_251 : IV z_249 0 21 := iz4 i_250 iv_244 (zle_e rfl) (zle_e rfl) (zle_e rfl)
                      refine k_iadd X dX11_house_k8.1.2.2.2 ?_
                      refine k_nm (fun z_252 ez_252 => ?_)
                      have i_253 : z_252.toInt = 16 + z_249.toInt := in_add ez_252 iq_16_16_16 iv_251 (zle_e rfl) (zle_e rfl)
                      have iv_254 : IV z_252 16 37 := iz2 i_253 iv_251 (zle_e rfl) (zle_e rfl)
                      refine k_iald X dX11_house_k8.2.1.1.1 5 rfl (iv_in iv_254 (zle_e rfl) (zle_l rfl)) ?_
                      refine k_nm (fun z_255 ez_255 => ?_)
                      refine k_iast [(cAI g a_st 44 (upd uf_148 (z_246 : Int32).toNatClampNeg z_255)), (cO11_i1r1i10r1i2r5i2r12i3r4i2 h0 m_thrown2_1 a_tape 0 p0 u_69 u_70 u_72 u_73 u_74 u_76 u_66 m_trouble2_2 a_letters u_67 m_hasHouse a_r a_fresh a_st a_undone a_kept m_undos m_images a_from a_begin a_motor a_change a_startFrame a_changeFrame a_lostAt a_blackAt a_slips a_leftArc a_died a_arcs m_bestSum m_nearest m_nearestTown a_there a_backAt a_sorted a_parts m_seed1 m_darkNow), (cAI g a_tape 900 d_tape), (cAI g a_letters 8 uf_65), (cAI g a_fresh 311 uf_62), (cAI g a_r 311 f3_133)] X dX11_house_k8.2.1.1.2 0 rfl (iv_in iv_248 (zle_e rfl) (zle_l rfl)) rfl ?_
                      refine k_aload_n X dX11_house_k8.2.1.2.1 1 rfl ?_
                      refine k_get (ci := 11) X inlX11 rfl 17 (nlt_e rfl) dX11_house_k8.2.1.2.2 mw172 1 rfl rfl ?_
                      refine k_bipush (v := 8) X dX11_house_k8.2.2.1.1 bi_8 ?_
                      refine k_iload_n X dX11_house_k8.2.2.1.2 0 rfl ?_
                      refine k_iadd X dX11_house_k8.2.2.2.1 ?_
                      refine k_nm (fun z_257 ez_257 => ?_)
                      have i_258 : z_257.toInt = 8 + u_149.toInt := in_add ez_257 iq_8_8_8 iv_244 (zle_e rfl) (zle_e rfl)
                      have iv_259 : IV z_257 8 15 := iz2 i_258 iv_244 (zle_e rfl) (zle_e rfl)
                      refine k_aload_n X dX11_house_k8.2.2.2.2 1 rfl ?_
                      refine k_get (ci := 11) X inlX11 rfl 15 (nlt_e rfl) dX11_house_k9.1.1.1.1 mw170 1 rfl rfl ?_
                      refine k_bipush (v := 16) X dX11_house_k9.1.1.1.2 bi_16 ?_
                      refine k_iconst (v := 3) X dX11_house_k9.1.1.2.1 ic_3 ?_
                      refine k_iload_n X dX11_house_k9.1.1.2.2 0 rfl ?_
                      refine k_imul X dX11_house_k9.1.2.1.1 ?_
                      refine k_to z_249 ez_249.symm ?_
                      refine k_iadd X dX11_house_k9.1.2.1.2 ?_
                      refine k_to z_252 ez_252.symm ?_
                      refine k_iconst (v := 1) X dX11_house_k9.1.2.2.1 ic_1 ?_
                      refine k_iadd X dX11_house_k9.1.2.2.2 ?_
                      refine k_nm (fun z_260 ez_260 => ?_)
                      have i_261 : z_260.toInt = z_252.toInt + 1 := in_add ez_260 iv_254 iq_1_1_1 (zle_e rfl) (zle_e rfl)
                      have iv_262 : IV z_260 17 38 := iz1 i_261 iv_254 (zle_e rfl) (zle_e rfl)
                      refine k_iald X dX11_house_k9.2.1.1.1 5 rfl (iv_in iv_262 (zle_e rfl) (zle_l rfl)) ?_
                      refine k_nm (fun z_263 ez_263 => ?_)
                      refine k_iast [(cAI g a_st 44 (upd (upd uf_148 (z_246 : Int32).toNatClampNeg z_255) (z_257 : Int32).toNatClampNeg z_263)), (cO11_i1r1i10r1i2r5i2r12i3r4i2 h0 m_thrown2_1 a_tape 0 p0 u_69 u_70 u_72 u_73 u_74 u_76 u_66 m_trouble2_2 a_letters u_67 m_hasHouse a_r a_fresh a_st a_undone a_kept m_undos m_images a_from a_begin a_motor a_change a_startFrame a_changeFrame a_lostAt a_blackAt a_slips a_leftArc a_died a_arcs m_bestSum m_nearest m_nearestTown a_there a_backAt a_sorted a_parts m_seed1 m_darkNow), (cAI g a_tape 900 d_tape), (cAI g a_letters 8 uf_65), (cAI g a_fresh 311 uf_62), (cAI g a_r 311 f3_133)] X dX11_house_k9.2.1.1.2 0 rfl (iv_in iv_259 (zle_e rfl) (zle_l rfl)) rfl ?_
                      obtain ⟨z_265, ez_265⟩ : ∃ y : Int32, u_149 + Int32.ofInt 1 = y := ⟨_, rfl⟩
                      refine k_iinc z_265 [(2, .int z_265), (0, .ref h0), (1, .int p0)] 0 X dX11_house_k9.2.1.2.1 rfl ez_265 (nlt_e rfl) rfl ?_
                      have i_266 : z_265.toInt = u_149.toInt + 1 := in_inc ez_265 (oin_e rfl) iv_244 (zle_e rfl) (zle_e rfl)
                      have iv_267 : IV z_265 1 8 := iz1 i_266 iv_244 (zle_e rfl) (zle_e rfl)
                      refine k_goto 226 X dX11_house_k9.2.1.2.2 (jp_e rfl) ?_
                      exact ih_153 _ (by omega) ((upd (upd uf_148 (z_246 : Int32).toNatClampNeg z_255) (z_257 : Int32).toNatClampNeg z_263)) z_265 rfl (iv_w iv_267 (zle_e rfl) (zle_e rfl)) (fun m_at2 m_end2 m_failed2 m_fault2 d_fresh2 m_hasHouse2 m_images2 d_letters2 m_nameSize2 m_place2 d_r2 m_size2 d_st2 m_taped2 m_thrown2 m_token2 m_trouble2 m_undos2 m_whole2 r h => h.elim (fun n_3 q => (KH_3 _ _ _ _ _ _ _ _ _ _ _ _ _ _ _ _ _ _ _ _ ⟨n_3 + 1, ⟨z_154, ez_154, (Or.inr ⟨h_157, ⟨z_246, ez_246, ⟨z_249, ez_249, ⟨z_252, ez_252, ⟨z_255, ez_255, ⟨z_257, ez_257, ⟨z_260, ez_260, ⟨z_263, ez_263, ⟨z_265, ez_265, q⟩⟩⟩⟩⟩⟩⟩⟩⟩)⟩⟩)))
                  · skip
                    have j_268 : u_140.toInt < 44 := iv_nle h_145
                    have iv_269 : IV u_140 0 43 := iv_ltL (iv_nle h_145) hv_141 iq_44_44_44 (zle_e rfl)
                    refine k_aload_n X dX11_house_k6.2.2.1.2 1 rfl ?_
                    refine k_get (ci := 11) X inlX11 rfl 17 (nlt_e rfl) dX11_house_k6.2.2.2.1 mw172 1 rfl rfl ?_
                    refine k_iload_n X dX11_house_k6.2.2.2.2 0 rfl ?_
                    refine k_iconst (v := 0) X dX11_house_k7.1.1.1.1 ic_0 ?_
                    refine k_iast [(cAI g a_st 44 (upd uf_139 (u_140 : Int32).toNatClampNeg 0)), (cO11_i1r1i10r1i2r5i2r12i3r4i2 h0 m_thrown2_1 a_tape 0 p0 u_69 u_70 u_72 u_73 u_74 u_76 u_66 m_trouble2_2 a_letters u_67 m_hasHouse a_r a_fresh a_st a_undone a_kept m_undos m_images a_from a_begin a_motor a_change a_startFrame a_changeFrame a_lostAt a_blackAt a_slips a_leftArc a_died a_arcs m_bestSum m_nearest m_nearestTown a_there a_backAt a_sorted a_parts m_seed1 m_darkNow), (cAI g a_tape 900 d_tape), (cAI g a_letters 8 uf_65), (cAI g a_fresh 311 uf_62), (cAI g a_r 311 f3_133)] X dX11_house_k7.1.1.1.2 0 rfl (iv_in iv_269 (zle_e rfl) (zle_l rfl)) rfl ?_
                    obtain ⟨z_271, ez_271⟩ : ∃ y : Int32, u_140 + Int32.ofInt 1 = y := ⟨_, rfl⟩
                    refine k_iinc z_271 [(2, .int z_271), (0, .ref h0), (1, .int p0)] 0 X dX11_house_k7.1.1.2.1 rfl ez_271 (nlt_e rfl) rfl ?_
                    have i_272 : z_271.toInt = u_140.toInt + 1 := in_inc ez_271 (oin_e rfl) iv_269 (zle_e rfl) (zle_e rfl)
                    have iv_273 : IV z_271 1 44 := iz1 i_272 iv_269 (zle_e rfl) (zle_e rfl)
                    refine k_goto 205 X dX11_house_k7.1.1.2.2 (jp_e rfl) ?_
                    exact ih_144 _ (by omega) ((upd uf_139 (u_140 : Int32).toNatClampNeg 0)) z_271 rfl (iv_w iv_273 (zle_e rfl) (zle_e rfl)) (fun m_at2 m_end2 m_failed2 m_fault2 d_fresh2 m_hasHouse2 m_images2 d_letters2 m_nameSize2 m_place2 d_r2 m_size2 d_st2 m_taped2 m_thrown2 m_token2 m_trouble2 m_undos2 m_whole2 r h => h.elim (fun n_2 q => (KH_2 _ _ _ _ _ _ _ _ _ _ _ _ _ _ _ _ _ _ _ _ ⟨n_2 + 1, (Or.inr ⟨h_145, ⟨z_271, ez_271, q⟩⟩)⟩)))
                · skip
                  have iv_274 : IV z_127 0 0 := iv_meet iv_129 (iv_e h_130 iq_0_0_0) (zle_o rfl) (zle_o rfl)
                  refine k_aload_n X dX11_house_k5.1.2.1.1 1 rfl ?_
                  refine k_bipush (v := 6) X dX11_house_k5.1.2.1.2 bi_6 ?_
                  refine k_aload_n X dX11_house_k5.1.2.2.1 1 rfl ?_
                  refine k_get (ci := 11) X inlX11 rfl 4 (nlt_e rfl) dX11_house_k5.1.2.2.2 mw473 2 rfl rfl ?_
                  refine k_callVV (n := 2) (As := [.int 6, .int u_69]) (st := []) X [(cO11_i1r1i10r1i2r5i2r12i3r4i2 h0 m_thrown2_1 a_tape 0 p0 u_69 u_70 u_72 u_73 u_74 u_76 u_66 m_trouble2_2 a_letters u_67 m_hasHouse a_r a_fresh a_st a_undone a_kept m_undos m_images a_from a_begin a_motor a_change a_startFrame a_changeFrame a_lostAt a_blackAt a_slips a_leftArc a_died a_arcs m_bestSum m_nearest m_nearestTown a_there a_backAt a_sorted a_parts m_seed1 m_darkNow)] [(cAI g a_r 311 d_r), (cAI g a_st 44 d_st), (cAI g a_tape 900 d_tape), (cAI g a_letters 8 uf_65), (cAI g a_fresh 311 uf_62)] [2] [0, 1, 3, 4, 5] (m_badX l g h0 6 u_69 m_thrown2_1 a_tape 0 p0 u_69 u_70 u_72 u_73 u_74 u_76 u_66 m_trouble2_2 a_letters u_67 m_hasHouse a_r a_fresh a_st a_undone a_kept m_undos m_images a_from a_begin a_motor a_change a_startFrame a_changeFrame a_lostAt a_blackAt a_slips a_leftArc a_died a_arcs m_bestSum m_nearest m_nearestTown a_there a_backAt a_sorted a_parts m_seed1 m_darkNow (iv_w iv_90 (zle_e rfl) (zle_e rfl))) dX11_house_k5.2.1.1.1 mw519 mw520 mw521 mw5 mw522 rfl 11 rfl rfl 0 _ rfl yk_yX11_bad_2 rfl (Nat.le_of_ble_eq_true rfl) (Nat.le_of_ble_eq_true rfl) (Nat.le_of_ble_eq_true rfl) (Nat.le_of_ble_eq_true rfl) (Nat.le_of_ble_eq_true rfl) rfl rfl (vnd_e rfl) rfl (vnd_e rfl) (dsj_e rfl) ?_
                  rintro w ⟨m_failed2_275, m_fault2_276, m_place2_277, iv_279, hq_280, rfl⟩
                  refine k_ws [(cAI g a_r 311 d_r), (cAI g a_st 44 d_st), (cAI g a_tape 900 d_tape), (cAI g a_letters 8 uf_65), (cAI g a_fresh 311 uf_62), (cO11_i1r1i10r1i2r5i2r12i3r4i2 h0 m_thrown2_1 a_tape 0 p0 u_69 u_70 u_72 u_73 u_74 m_fault2_276 m_place2_277 m_trouble2_2 a_letters m_failed2_275 m_hasHouse a_r a_fresh a_st a_undone a_kept m_undos m_images a_from a_begin a_motor a_change a_startFrame a_changeFrame a_lostAt a_blackAt a_slips a_leftArc a_died a_arcs m_bestSum m_nearest m_nearestTown a_there a_backAt a_sorted a_parts m_seed1 m_darkNow)] rfl ?_
                  refine k_aload_n X dX11_house_k5.2.1.1.2 1 rfl ?_
                  refine k_get (ci := 11) X inlX11 rfl 13 (nlt_e rfl) dX11_house_k5.2.1.2.1 mw469 5 rfl rfl ?_
                  refine k_if_eq 187 X dX11_house_k5.2.1.2.2 (jp_e rfl) (fun h_281 => (iv_eqN h_281 iv_279 iq_0_0_0 (by decide)).elim) (fun h_281 => ?_)
                  refine k_aload_n X dX11_house_k5.2.2.1.1 1 rfl ?_
                  refine k_iconst (v := 4) X dX11_house_k5.2.2.1.2 ic_4 ?_
                  refine k_callVI (n := 1) (As := [.int 4]) (st := []) X [(cO11_i1r1i10r1i2r5i2r12i3r4i2 h0 m_thrown2_1 a_tape 0 p0 u_69 u_70 u_72 u_73 u_74 m_fault2_276 m_place2_277 m_trouble2_2 a_letters m_failed2_275 m_hasHouse a_r a_fresh a_st a_undone a_kept m_undos m_images a_from a_begin a_motor a_change a_startFrame a_changeFrame a_lostAt a_blackAt a_slips a_leftArc a_died a_arcs m_bestSum m_nearest m_nearestTown a_there a_backAt a_sorted a_parts m_seed1 m_darkNow)] [(cAI g a_r 311 d_r), (cAI g a_st 44 d_st), (cAI g a_tape 900 d_tape), (cAI g a_letters 8 uf_65), (cAI g a_fresh 311 uf_62)] [5] [0, 1, 2, 3, 4] (m_noX l g h0 4 m_thrown2_1 a_tape 0 p0 u_69 u_70 u_72 u_73 u_74 m_fault2_276 m_place2_277 m_trouble2_2 a_letters m_failed2_275 m_hasHouse a_r a_fresh a_st a_undone a_kept m_undos m_images a_from a_begin a_motor a_change a_startFrame a_changeFrame a_lostAt a_blackAt a_slips a_leftArc a_died a_arcs m_bestSum m_nearest m_nearestTown a_there a_backAt a_sorted a_parts m_seed1 m_darkNow) dX11_house_k5.2.2.2.1 mw485 mw486 mw487 mw5 mw488 rfl 11 rfl rfl 0 _ rfl yk_yX11_no_1 rfl (Nat.le_of_ble_eq_true rfl) (Nat.le_of_ble_eq_true rfl) (Nat.le_of_ble_eq_true rfl) (Nat.le_of_ble_eq_true rfl) (Nat.le_of_ble_eq_true rfl) rfl rfl (vnd_e rfl) rfl (vnd_e rfl) (dsj_e rfl) ?_
                  rintro r_283 w ⟨m_trouble2_282, iv_284, hq_285, rfl⟩
                  refine k_ws [(cAI g a_r 311 d_r), (cAI g a_st 44 d_st), (cAI g a_tape 900 d_tape), (cAI g a_letters 8 uf_65), (cAI g a_fresh 311 uf_62), (cO11_i1r1i10r1i2r5i2r12i3r4i2 h0 m_thrown2_1 a_tape 0 p0 u_69 u_70 u_72 u_73 u_74 m_fault2_276 m_place2_277 m_trouble2_282 a_letters m_failed2_275 m_hasHouse a_r a_fresh a_st a_undone a_kept m_undos m_images a_from a_begin a_motor a_change a_startFrame a_changeFrame a_lostAt a_blackAt a_slips a_leftArc a_died a_arcs m_bestSum m_nearest m_nearestTown a_there a_backAt a_sorted a_parts m_seed1 m_darkNow)] rfl ?_
                  exact k_iret X hr dX11_house_k5.2.2.2.2 (Nat.le_of_ble_eq_true rfl) (Nat.le_of_ble_eq_true rfl) [5, 2, 3, 0, 4, 1] (vnd_e rfl) rfl rfl ⟨u_69, u_70, m_failed2_275, m_fault2_276, uf_62, m_hasHouse, m_images, uf_65, u_74, m_place2_277, d_r, p0, d_st, 0, m_thrown2_1, u_72, m_trouble2_282, m_undos, u_73, (iv_w hv_71 (zle_e rfl) (zle_e rfl)), (iv_w iv_279 (zle_e rfl) (zle_e rfl)), (iv_w hv_m_hasHouse (zle_e rfl) (zle_e rfl)), (iv_w hv_m_images (zle_e rfl) (zle_e rfl)), (iv_w hv_75 (zle_e rfl) (zle_e rfl)), (iv_w iv_15 (zle_e rfl) (zle_e rfl)), (iv_w iq_0_0_0 (zle_e rfl) (zle_e rfl)), (iv_w hv_m_undos (zle_e rfl) (zle_e rfl)), hp_d_r, hp_63, (by refine ⟨fun q => ?_, fun q => ?_⟩ <;> first | rfl | (exfalso; omega)), hr_0, (KH_1 _ _ _ _ _ _ _ _ _ _ _ _ _ _ _ _ _ _ _ _ ⟨0 + 1, (Or.inr ⟨h_81, (Or.inl ⟨h_91, (Or.inl ⟨h_93, ⟨z_96, ez_96, (Or.inr ⟨h_97, ⟨z_110, ez_110, (Or.inr ⟨h_113, ⟨z_127, ez_127, (Or.inr ⟨h_130, ⟨m_failed2_275, m_fault2_276, m_place2_277, hq_280, ⟨m_trouble2_282, r_283, hq_285, ⟨rfl, rfl, rfl, rfl, rfl, rfl, rfl, rfl, rfl, rfl, rfl, rfl, rfl, rfl, rfl, rfl, rfl, rfl, rfl, rfl⟩⟩⟩⟩)⟩⟩)⟩⟩)⟩⟩)⟩)⟩)⟩), rfl⟩
          · skip
            refine k_aload_n X dX11_house_k3.2.2.1.2 1 rfl ?_
            refine k_iconst (v := 1) X dX11_house_k3.2.2.2.1 ic_1 ?_
            refine k_aload_n X dX11_house_k3.2.2.2.2 1 rfl ?_
            refine k_get (ci := 11) X inlX11 rfl 4 (nlt_e rfl) dX11_house_k4.1.1.1.1 mw473 2 rfl rfl ?_
            refine k_callVV (n := 2) (As := [.int 1, .int u_69]) (st := []) X [(cO11_i1r1i10r1i2r5i2r12i3r4i2 h0 m_thrown2_1 a_tape 0 p0 u_69 u_70 u_72 u_73 u_74 u_76 u_66 m_trouble2_2 a_letters u_67 m_hasHouse a_r a_fresh a_st a_undone a_kept m_undos m_images a_from a_begin a_motor a_change a_startFrame a_changeFrame a_lostAt a_blackAt a_slips a_leftArc a_died a_arcs m_bestSum m_nearest m_nearestTown a_there a_backAt a_sorted a_parts m_seed1 m_darkNow)] [(cAI g a_r 311 d_r), (cAI g a_st 44 d_st), (cAI g a_tape 900 d_tape), (cAI g a_letters 8 uf_65), (cAI g a_fresh 311 uf_62)] [2] [0, 1, 3, 4, 5] (m_badX l g h0 1 u_69 m_thrown2_1 a_tape 0 p0 u_69 u_70 u_72 u_73 u_74 u_76 u_66 m_trouble2_2 a_letters u_67 m_hasHouse a_r a_fresh a_st a_undone a_kept m_undos m_images a_from a_begin a_motor a_change a_startFrame a_changeFrame a_lostAt a_blackAt a_slips a_leftArc a_died a_arcs m_bestSum m_nearest m_nearestTown a_there a_backAt a_sorted a_parts m_seed1 m_darkNow (iv_w iv_90 (zle_e rfl) (zle_e rfl))) dX11_house_k4.1.1.1.2 mw519 mw520 mw521 mw5 mw522 rfl 11 rfl rfl 0 _ rfl yk_yX11_bad_2 rfl (Nat.le_of_ble_eq_true rfl) (Nat.le_of_ble_eq_true rfl) (Nat.le_of_ble_eq_true rfl) (Nat.le_of_ble_eq_true rfl) (Nat.le_of_ble_eq_true rfl) rfl rfl (vnd_e rfl) rfl (vnd_e rfl) (dsj_e rfl) ?_
            rintro w ⟨m_failed2_286, m_fault2_287, m_place2_288, iv_290, hq_291, rfl⟩
            refine k_ws [(cAI g a_r 311 d_r), (cAI g a_st 44 d_st), (cAI g a_tape 900 d_tape), (cAI g a_letters 8 uf_65), (cAI g a_fresh 311 uf_62), (cO11_i1r1i10r1i2r5i2r12i3r4i2 h0 m_thrown2_1 a_tape 0 p0 u_69 u_70 u_72 u_73 u_74 m_fault2_287 m_place2_288 m_trouble2_2 a_letters m_failed2_286 m_hasHouse a_r a_fresh a_st a_undone a_kept m_undos m_images a_from a_begin a_motor a_change a_startFrame a_changeFrame a_lostAt a_blackAt a_slips a_leftArc a_died a_arcs m_bestSum m_nearest m_nearestTown a_there a_backAt a_sorted a_parts m_seed1 m_darkNow)] rfl ?_
            refine k_aload_n X dX11_house_k4.1.1.2.1 1 rfl ?_
            refine k_get (ci := 11) X inlX11 rfl 13 (nlt_e rfl) dX11_house_k4.1.1.2.2 mw469 5 rfl rfl ?_
            refine k_if_ne 174 X dX11_house_k4.1.2.1.1 (jp_e rfl) (fun h_292 => ?_) (fun h_292 => (iv_eqN h_292 iv_290 iq_0_0_0 (by decide)).elim)
            refine k_aload_n X dX11_house_k5.2.1.1.2 1 rfl ?_
            refine k_get (ci := 11) X inlX11 rfl 13 (nlt_e rfl) dX11_house_k5.2.1.2.1 mw469 5 rfl rfl ?_
            refine k_if_eq 187 X dX11_house_k5.2.1.2.2 (jp_e rfl) (fun h_293 => (iv_eqN h_293 iv_290 iq_0_0_0 (by decide)).elim) (fun h_293 => ?_)
            refine k_aload_n X dX11_house_k5.2.2.1.1 1 rfl ?_
            refine k_iconst (v := 4) X dX11_house_k5.2.2.1.2 ic_4 ?_
            refine k_callVI (n := 1) (As := [.int 4]) (st := []) X [(cO11_i1r1i10r1i2r5i2r12i3r4i2 h0 m_thrown2_1 a_tape 0 p0 u_69 u_70 u_72 u_73 u_74 m_fault2_287 m_place2_288 m_trouble2_2 a_letters m_failed2_286 m_hasHouse a_r a_fresh a_st a_undone a_kept m_undos m_images a_from a_begin a_motor a_change a_startFrame a_changeFrame a_lostAt a_blackAt a_slips a_leftArc a_died a_arcs m_bestSum m_nearest m_nearestTown a_there a_backAt a_sorted a_parts m_seed1 m_darkNow)] [(cAI g a_r 311 d_r), (cAI g a_st 44 d_st), (cAI g a_tape 900 d_tape), (cAI g a_letters 8 uf_65), (cAI g a_fresh 311 uf_62)] [5] [0, 1, 2, 3, 4] (m_noX l g h0 4 m_thrown2_1 a_tape 0 p0 u_69 u_70 u_72 u_73 u_74 m_fault2_287 m_place2_288 m_trouble2_2 a_letters m_failed2_286 m_hasHouse a_r a_fresh a_st a_undone a_kept m_undos m_images a_from a_begin a_motor a_change a_startFrame a_changeFrame a_lostAt a_blackAt a_slips a_leftArc a_died a_arcs m_bestSum m_nearest m_nearestTown a_there a_backAt a_sorted a_parts m_seed1 m_darkNow) dX11_house_k5.2.2.2.1 mw485 mw486 mw487 mw5 mw488 rfl 11 rfl rfl 0 _ rfl yk_yX11_no_1 rfl (Nat.le_of_ble_eq_true rfl) (Nat.le_of_ble_eq_true rfl) (Nat.le_of_ble_eq_true rfl) (Nat.le_of_ble_eq_true rfl) (Nat.le_of_ble_eq_true rfl) rfl rfl (vnd_e rfl) rfl (vnd_e rfl) (dsj_e rfl) ?_
            rintro r_295 w ⟨m_trouble2_294, iv_296, hq_297, rfl⟩
            refine k_ws [(cAI g a_r 311 d_r), (cAI g a_st 44 d_st), (cAI g a_tape 900 d_tape), (cAI g a_letters 8 uf_65), (cAI g a_fresh 311 uf_62), (cO11_i1r1i10r1i2r5i2r12i3r4i2 h0 m_thrown2_1 a_tape 0 p0 u_69 u_70 u_72 u_73 u_74 m_fault2_287 m_place2_288 m_trouble2_294 a_letters m_failed2_286 m_hasHouse a_r a_fresh a_st a_undone a_kept m_undos m_images a_from a_begin a_motor a_change a_startFrame a_changeFrame a_lostAt a_blackAt a_slips a_leftArc a_died a_arcs m_bestSum m_nearest m_nearestTown a_there a_backAt a_sorted a_parts m_seed1 m_darkNow)] rfl ?_
            exact k_iret X hr dX11_house_k5.2.2.2.2 (Nat.le_of_ble_eq_true rfl) (Nat.le_of_ble_eq_true rfl) [5, 2, 3, 0, 4, 1] (vnd_e rfl) rfl rfl ⟨u_69, u_70, m_failed2_286, m_fault2_287, uf_62, m_hasHouse, m_images, uf_65, u_74, m_place2_288, d_r, p0, d_st, 0, m_thrown2_1, u_72, m_trouble2_294, m_undos, u_73, (iv_w hv_71 (zle_e rfl) (zle_e rfl)), (iv_w iv_290 (zle_e rfl) (zle_e rfl)), (iv_w hv_m_hasHouse (zle_e rfl) (zle_e rfl)), (iv_w hv_m_images (zle_e rfl) (zle_e rfl)), (iv_w hv_75 (zle_e rfl) (zle_e rfl)), (iv_w iv_15 (zle_e rfl) (zle_e rfl)), (iv_w iq_0_0_0 (zle_e rfl) (zle_e rfl)), (iv_w hv_m_undos (zle_e rfl) (zle_e rfl)), hp_d_r, hp_63, (by refine ⟨fun q => ?_, fun q => ?_⟩ <;> first | rfl | (exfalso; omega)), hr_0, (KH_1 _ _ _ _ _ _ _ _ _ _ _ _ _ _ _ _ _ _ _ _ ⟨0 + 1, (Or.inr ⟨h_81, (Or.inl ⟨h_91, (Or.inr ⟨h_93, ⟨m_failed2_286, m_fault2_287, m_place2_288, hq_291, ⟨m_trouble2_294, r_295, hq_297, ⟨rfl, rfl, rfl, rfl, rfl, rfl, rfl, rfl, rfl, rfl, rfl, rfl, rfl, rfl, rfl, rfl, rfl, rfl, rfl, rfl⟩⟩⟩⟩)⟩)⟩)⟩), rfl⟩
        · skip
          have iv_298 : IV u_72 59 59 := iv_meet (iv_any u_72) (iv_e h_91 iq_59_59_59) (zle_o rfl) (zle_o rfl)
          refine k_aload_n X dX11_house_k3.1.1.2.1 1 rfl ?_
          refine k_callVV (n := 0) (As := []) (st := []) X [(cO11_i1r1i10r1i2r5i2r12i3r4i2 h0 m_thrown2_1 a_tape 0 p0 u_69 u_70 u_72 u_73 u_74 u_76 u_66 m_trouble2_2 a_letters u_67 m_hasHouse a_r a_fresh a_st a_undone a_kept m_undos m_images a_from a_begin a_motor a_change a_startFrame a_changeFrame a_lostAt a_blackAt a_slips a_leftArc a_died a_arcs m_bestSum m_nearest m_nearestTown a_there a_backAt a_sorted a_parts m_seed1 m_darkNow), (cAI g a_tape 900 d_tape), (cAI g a_letters 8 uf_65)] [(cAI g a_r 311 d_r), (cAI g a_st 44 d_st), (cAI g a_fresh 311 uf_62)] [2, 3, 4] [0, 1, 5] (m_nextX l g h0 m_thrown2_1 a_tape 0 p0 u_69 u_70 u_72 u_73 u_74 u_76 u_66 m_trouble2_2 a_letters u_67 m_hasHouse a_r a_fresh a_st a_undone a_kept m_undos m_images a_from a_begin a_motor a_change a_startFrame a_changeFrame a_lostAt a_blackAt a_slips a_leftArc a_died a_arcs m_bestSum m_nearest m_nearestTown a_there a_backAt a_sorted a_parts m_seed1 m_darkNow d_tape uf_65 (iv_w iv_15 (zle_e rfl) (zle_e rfl)) (iv_w hv_71 (zle_e rfl) (zle_e rfl)) (iv_w hv_75 (zle_e rfl) (zle_e rfl))) dX11_house_k3.1.1.2.2 mw489 mw490 mw491 mw5 mw492 rfl 11 rfl rfl 0 _ rfl yk_yX11_next_0 rfl (Nat.le_of_ble_eq_true rfl) (Nat.le_of_ble_eq_true rfl) (Nat.le_of_ble_eq_true rfl) (Nat.le_of_ble_eq_true rfl) (Nat.le_of_ble_eq_true rfl) rfl rfl (vnd_e rfl) rfl (vnd_e rfl) (dsj_e rfl) ?_
          intro w zq
          refine exE6 zq ?_
          clear zq
          intro m_at2_299 m_end2_300 d_letters2_301 m_nameSize2_302 m_token2_303 m_whole2_304 iv_306 zq
          refine exA5 zq ?_
          clear zq
          intro iv_307 hq_308 hq_309 hq_310 hk_311 zq
          subst zq
          refine k_ws [(cAI g a_r 311 d_r), (cAI g a_st 44 d_st), (cAI g a_fresh 311 uf_62), (cO11_i1r1i10r1i2r5i2r12i3r4i2 h0 m_thrown2_1 a_tape 0 p0 m_at2_299 m_end2_300 m_token2_303 m_whole2_304 m_nameSize2_302 u_76 u_66 m_trouble2_2 a_letters u_67 m_hasHouse a_r a_fresh a_st a_undone a_kept m_undos m_images a_from a_begin a_motor a_change a_startFrame a_changeFrame a_lostAt a_blackAt a_slips a_leftArc a_died a_arcs m_bestSum m_nearest m_nearestTown a_there a_backAt a_sorted a_parts m_seed1 m_darkNow), (cAI g a_tape 900 d_tape), (cAI g a_letters 8 d_letters2_301)] rfl ?_
          refine k_aload_n X dX11_house_k3.1.2.1.1 1 rfl ?_
          refine k_callVV (n := 0) (As := []) (st := []) X [(cO11_i1r1i10r1i2r5i2r12i3r4i2 h0 m_thrown2_1 a_tape 0 p0 m_at2_299 m_end2_300 m_token2_303 m_whole2_304 m_nameSize2_302 u_76 u_66 m_trouble2_2 a_letters u_67 m_hasHouse a_r a_fresh a_st a_undone a_kept m_undos m_images a_from a_begin a_motor a_change a_startFrame a_changeFrame a_lostAt a_blackAt a_slips a_leftArc a_died a_arcs m_bestSum m_nearest m_nearestTown a_there a_backAt a_sorted a_parts m_seed1 m_darkNow), (cAI g a_tape 900 d_tape), (cAI g a_letters 8 d_letters2_301), (cAI g a_fresh 311 uf_62)] [(cAI g a_r 311 d_r), (cAI g a_st 44 d_st)] [3, 4, 5, 2] [0, 1] (m_readLineX l g h0 m_thrown2_1 a_tape 0 p0 m_at2_299 m_end2_300 m_token2_303 m_whole2_304 m_nameSize2_302 u_76 u_66 m_trouble2_2 a_letters u_67 m_hasHouse a_r a_fresh a_st a_undone a_kept m_undos m_images a_from a_begin a_motor a_change a_startFrame a_changeFrame a_lostAt a_blackAt a_slips a_leftArc a_died a_arcs m_bestSum m_nearest m_nearestTown a_there a_backAt a_sorted a_parts m_seed1 m_darkNow d_tape d_letters2_301 uf_62 (iv_w iv_15 (zle_e rfl) (zle_e rfl)) (iv_w iv_306 (zle_e rfl) (zle_e rfl)) (iv_w iv_307 (zle_e rfl) (zle_e rfl)) (iv_w iv_90 (zle_e rfl) (zle_e rfl)) hp_63 hT_64 hk_311) dX11_house_k3.1.2.1.2 mw505 mw506 mw507 mw5 mw508 rfl 11 rfl rfl 0 _ rfl yk_yX11_readLine_0 rfl (Nat.le_of_ble_eq_true rfl) (Nat.le_of_ble_eq_true rfl) (Nat.le_of_ble_eq_true rfl) (Nat.le_of_ble_eq_true rfl) (Nat.le_of_ble_eq_true rfl) rfl rfl (vnd_e rfl) rfl (vnd_e rfl) (dsj_e rfl) ?_
          intro w zq
          refine exE10 zq ?_
          clear zq
          intro m_at2_312 m_end2_313 m_failed2_314 m_fault2_315 d_fresh2_316 d_letters2_317 m_nameSize2_318 m_place2_319 m_token2_320 m_whole2_321 iv_323 zq
          refine exA8 zq ?_
          clear zq
          intro iv_324 iv_325 hp_326 hq_327 hq_328 hq_329 hq_330 hk_331 zq
          subst zq
          refine k_ws [(cAI g a_r 311 d_r), (cAI g a_st 44 d_st), (cO11_i1r1i10r1i2r5i2r12i3r4i2 h0 m_thrown2_1 a_tape 0 p0 m_at2_312 m_end2_313 m_token2_320 m_whole2_321 m_nameSize2_318 m_fault2_315 m_place2_319 m_trouble2_2 a_letters m_failed2_314 m_hasHouse a_r a_fresh a_st a_undone a_kept m_undos m_images a_from a_begin a_motor a_change a_startFrame a_changeFrame a_lostAt a_blackAt a_slips a_leftArc a_died a_arcs m_bestSum m_nearest m_nearestTown a_there a_backAt a_sorted a_parts m_seed1 m_darkNow), (cAI g a_tape 900 d_tape), (cAI g a_letters 8 d_letters2_317), (cAI g a_fresh 311 d_fresh2_316)] rfl ?_
          refine k_goto 77 X dX11_house_k3.1.2.2.1 (jp_e rfl) ?_
          exact ih_80 _ (by omega) d_fresh2_316 d_letters2_317 m_place2_319 m_failed2_314 m_at2_312 m_end2_313 m_token2_320 m_whole2_321 m_nameSize2_318 m_fault2_315 rfl hp_326 hq_329 (iv_w iv_324 (zle_e rfl) (zle_e rfl)) (iv_w iv_323 (zle_e rfl) (zle_e rfl)) (iv_w iv_325 (zle_e rfl) (zle_e rfl)) hk_331 (fun m_at2 m_end2 m_failed2 m_fault2 d_fresh2 m_hasHouse2 m_images2 d_letters2 m_nameSize2 m_place2 d_r2 m_size2 d_st2 m_taped2 m_thrown2 m_token2 m_trouble2 m_undos2 m_whole2 r h => h.elim (fun n_1 q => (KH_1 _ _ _ _ _ _ _ _ _ _ _ _ _ _ _ _ _ _ _ _ ⟨n_1 + 1, (Or.inr ⟨h_81, (Or.inr ⟨h_91, ⟨m_at2_299, m_end2_300, d_letters2_301, m_nameSize2_302, m_token2_303, m_whole2_304, hq_310, ⟨m_at2_312, m_end2_313, m_failed2_314, m_fault2_315, d_fresh2_316, d_letters2_317, m_nameSize2_318, m_place2_319, m_token2_320, m_whole2_321, hq_330, q⟩⟩⟩)⟩)⟩)))
    · skip
      have j_332 : u_19.toInt < 311 := iv_nle h_25
      have iv_333 : IV u_19 0 310 := iv_ltL (iv_nle h_25) hv_20 iq_311_311_311 (zle_e rfl)
      refine k_aload_n X dX11_house_k1.2.1.2.1 1 rfl ?_
      refine k_get (ci := 11) X inlX11 rfl 16 (nlt_e rfl) dX11_house_k1.2.1.2.2 mw171 5 rfl rfl ?_
      refine k_iload_n X dX11_house_k1.2.2.1.1 0 rfl ?_
      refine k_iconst (v := 0) X dX11_house_k1.2.2.1.2 ic_0 ?_
      refine k_iast [(cAI g a_tape 900 d_tape), (cAI g a_letters 8 d_letters), (cAI g a_r 311 d_r), (cAI g a_fresh 311 (upd uf_17 (u_19 : Int32).toNatClampNeg 0)), (cAI g a_st 44 d_st), (cO11_i1r1i10r1i2r5i2r12i3r4i2 h0 m_thrown2_1 a_tape 0 m_size m_at m_end m_token m_whole m_nameSize 0 m_place m_trouble2_2 a_letters 0 m_hasHouse a_r a_fresh a_st a_undone a_kept m_undos m_images a_from a_begin a_motor a_change a_startFrame a_changeFrame a_lostAt a_blackAt a_slips a_leftArc a_died a_arcs m_bestSum m_nearest m_nearestTown a_there a_backAt a_sorted a_parts m_seed1 m_darkNow)] X dX11_house_k1.2.2.2.1 3 rfl (iv_in iv_333 (zle_e rfl) (zle_l rfl)) rfl ?_
      refine (fun hg : ∀ fa_334 : Nat → Int32, fa_334 = upd uf_17 (u_19 : Int32).toNatClampNeg 0 → RInv fa_334 → Wk p l e _ s m args below meth c _ A g _ _ _ [(cAI g a_tape 900 d_tape), (cAI g a_letters 8 d_letters), (cAI g a_r 311 d_r), (cAI g a_fresh 311 fa_334), (cAI g a_st 44 d_st), (cO11_i1r1i10r1i2r5i2r12i3r4i2 h0 m_thrown2_1 a_tape 0 m_size m_at m_end m_token m_whole m_nameSize 0 m_place m_trouble2_2 a_letters 0 m_hasHouse a_r a_fresh a_st a_undone a_kept m_undos m_images a_from a_begin a_motor a_change a_startFrame a_changeFrame a_lostAt a_blackAt a_slips a_leftArc a_died a_arcs m_bestSum m_nearest m_nearestTown a_there a_backAt a_sorted a_parts m_seed1 m_darkNow)] _ _ _ => hg _ rfl (w_zero hp_18)) (fun fa_334 eq_337 hR_335 => ?_)
      obtain ⟨z_338, ez_338⟩ : ∃ y : Int32, u_19 + Int32.ofInt 1 = y := ⟨_, rfl⟩
      refine k_iinc z_338 [(2, .int z_338), (0, .ref h0), (1, .int p0)] 0 X dX11_house_k1.2.2.2.2 rfl ez_338 (nlt_e rfl) rfl ?_
      have i_339 : z_338.toInt = u_19.toInt + 1 := in_inc ez_338 (oin_e rfl) iv_333 (zle_e rfl) (zle_e rfl)
      have iv_340 : IV z_338 1 311 := iz1 i_339 iv_333 (zle_e rfl) (zle_e rfl)
      refine k_goto 39 X dX11_house_k2.1.1.1.1 (jp_e rfl) ?_
      exact ih_24 _ (by omega) fa_334 z_338 rfl hR_335 (iv_w iv_340 (zle_e rfl) (zle_e rfl)) (z_step hx_21 eq_337 (by omega) (by omega)) (fun m_at2 m_end2 m_failed2 m_fault2 d_fresh2 m_hasHouse2 m_images2 d_letters2 m_nameSize2 m_place2 d_r2 m_size2 d_st2 m_taped2 m_thrown2 m_token2 m_trouble2 m_undos2 m_whole2 r h => h.elim (fun n_0 q => (KH_0 _ _ _ _ _ _ _ _ _ _ _ _ _ _ _ _ _ _ _ _ ⟨n_0 + 1, (Or.inr ⟨h_25, ⟨fa_334, eq_337, ⟨z_338, ez_338, q⟩⟩⟩)⟩)))
  · skip
    have iv_341 : IV r_5 0 0 := iv_meet iv_6 (iv_e h_10 iq_0_0_0) (zle_o rfl) (zle_o rfl)
    have hc_342 := hk_9 (iv_eq iv_341 iq_0_0_0)
    have j_343 : p0.toInt < 0 ∨ m_taped.toInt < p0.toInt := hc_342
    refine k_aload_n X dX11_house_k0.2.1.1.1 0 rfl ?_
    refine k_iconst (v := 2) X dX11_house_k0.2.1.1.2 ic_2 ?_
    refine k_callVI (n := 1) (As := [.int 2]) (st := []) X [(cO11_i1r1i10r1i2r5i2r12i3r4i2 h0 m_thrown2_1 a_tape m_taped m_size m_at m_end m_token m_whole m_nameSize m_fault m_place m_trouble2_2 a_letters m_failed m_hasHouse a_r a_fresh a_st a_undone a_kept m_undos m_images a_from a_begin a_motor a_change a_startFrame a_changeFrame a_lostAt a_blackAt a_slips a_leftArc a_died a_arcs m_bestSum m_nearest m_nearestTown a_there a_backAt a_sorted a_parts m_seed1 m_darkNow)] [(cAI g a_tape 900 d_tape), (cAI g a_letters 8 d_letters), (cAI g a_r 311 d_r), (cAI g a_fresh 311 d_fresh), (cAI g a_st 44 d_st)] [5] [0, 1, 2, 3, 4] (m_noX l g h0 2 m_thrown2_1 a_tape m_taped m_size m_at m_end m_token m_whole m_nameSize m_fault m_place m_trouble2_2 a_letters m_failed m_hasHouse a_r a_fresh a_st a_undone a_kept m_undos m_images a_from a_begin a_motor a_change a_startFrame a_changeFrame a_lostAt a_blackAt a_slips a_leftArc a_died a_arcs m_bestSum m_nearest m_nearestTown a_there a_backAt a_sorted a_parts m_seed1 m_darkNow) dX11_house_k0.2.1.2.1 mw485 mw486 mw487 mw5 mw488 rfl 11 rfl rfl 0 _ rfl yk_yX11_no_1 rfl (Nat.le_of_ble_eq_true rfl) (Nat.le_of_ble_eq_true rfl) (Nat.le_of_ble_eq_true rfl) (Nat.le_of_ble_eq_true rfl) (Nat.le_of_ble_eq_true rfl) rfl rfl (vnd_e rfl) rfl (vnd_e rfl) (dsj_e rfl) ?_
    rintro r_345 w ⟨m_trouble2_344, iv_346, hq_347, rfl⟩
    refine k_ws [(cAI g a_tape 900 d_tape), (cAI g a_letters 8 d_letters), (cAI g a_r 311 d_r), (cAI g a_fresh 311 d_fresh), (cAI g a_st 44 d_st), (cO11_i1r1i10r1i2r5i2r12i3r4i2 h0 m_thrown2_1 a_tape m_taped m_size m_at m_end m_token m_whole m_nameSize m_fault m_place m_trouble2_344 a_letters m_failed m_hasHouse a_r a_fresh a_st a_undone a_kept m_undos m_images a_from a_begin a_motor a_change a_startFrame a_changeFrame a_lostAt a_blackAt a_slips a_leftArc a_died a_arcs m_bestSum m_nearest m_nearestTown a_there a_backAt a_sorted a_parts m_seed1 m_darkNow)] rfl ?_
    exact k_iret X hr dX11_house_k0.2.1.2.2 (Nat.le_of_ble_eq_true rfl) (Nat.le_of_ble_eq_true rfl) [5, 0, 1, 2, 3, 4] (vnd_e rfl) rfl rfl ⟨m_at, m_end, m_failed, m_fault, d_fresh, m_hasHouse, m_images, d_letters, m_nameSize, m_place, d_r, m_size, d_st, m_taped, m_thrown2_1, m_token, m_trouble2_344, m_undos, m_whole, (iv_w hv_m_end (zle_e rfl) (zle_e rfl)), (iv_w hv_m_failed (zle_e rfl) (zle_e rfl)), (iv_w hv_m_hasHouse (zle_e rfl) (zle_e rfl)), (iv_w hv_m_images (zle_e rfl) (zle_e rfl)), (iv_w hv_m_nameSize (zle_e rfl) (zle_e rfl)), (iv_w hv_m_size (zle_e rfl) (zle_e rfl)), (iv_w hv_m_taped (zle_e rfl) (zle_e rfl)), (iv_w hv_m_undos (zle_e rfl) (zle_e rfl)), hp_d_r, hp_d_fresh, (by refine ⟨fun q => ?_, fun q => ?_⟩ <;> first | rfl | (exfalso; omega)), hr_0, ⟨m_thrown2_1, m_trouble2_2, hq_4, ⟨r_5, hq_7, (Or.inr ⟨h_10, ⟨m_trouble2_344, r_345, hq_347, ⟨rfl, rfl, rfl, rfl, rfl, rfl, rfl, rfl, rfl, rfl, rfl, rfl, rfl, rfl, rfl, rfl, rfl, rfl, rfl, rfl⟩⟩⟩)⟩⟩, rfl⟩


set_option maxHeartbeats 4000000 in
set_option maxRecDepth 100000 in
theorem m_feedX (l : Launch) (g : Gx) (h0 : Nat) (p0 : Int32) (p1 : Int32) (p2 : Int32) (p3 : Int32) (p4 : Int32) (m_thrown : Int32) (a_tape : Nat) (m_taped : Int32) (m_size : Int32) (m_at : Int32) (m_end : Int32) (m_token : Int32) (m_whole : Int32) (m_nameSize : Int32) (m_fault : Int32) (m_place : Int32) (m_trouble : Int32) (a_letters : Nat) (m_failed : Int32) (m_hasHouse : Int32) (a_r : Nat) (a_fresh : Nat) (a_st : Nat) (a_undone : Nat) (a_kept : Nat) (m_undos : Int32) (m_images : Int32) (a_from : Nat) (a_begin : Nat) (a_motor : Nat) (a_change : Nat) (a_startFrame : Nat) (a_changeFrame : Nat) (a_lostAt : Nat) (a_blackAt : Nat) (a_slips : Nat) (a_leftArc : Nat) (a_died : Nat) (a_arcs : Nat) (m_bestSum : Int32) (m_nearest : Int32) (m_nearestTown : Int32) (a_there : Nat) (a_backAt : Nat) (a_sorted : Nat) (a_parts : Nat) (m_seed1 : Int32) (m_darkNow : Int32) (d_tape : Nat → Int32) (hv_m_taped : IV m_taped 0 900) : cI l g yX11_feed cX11_feed 8 (some .int) 0 0 0 0 [.ref h0, .int p0, .int p1, .int p2, .int p3, .int p4] [(cO11_i1r1i10r1i2r5i2r12i3r4i2 h0 m_thrown a_tape m_taped m_size m_at m_end m_token m_whole m_nameSize m_fault m_place m_trouble a_letters m_failed m_hasHouse a_r a_fresh a_st a_undone a_kept m_undos m_images a_from a_begin a_motor a_change a_startFrame a_changeFrame a_lostAt a_blackAt a_slips a_leftArc a_died a_arcs m_bestSum m_nearest m_nearestTown a_there a_backAt a_sorted a_parts m_seed1 m_darkNow), (cAI g a_tape 900 d_tape)] (fun r w => ∃ (d_tape2 : Nat → Int32) (m_taped2 : Int32) (m_thrown2 : Int32), IV m_taped2 0 900 ∧ ((900 < m_taped.toInt + 20 → r = -1 ∧ m_taped2 = m_taped) ∧ (m_taped.toInt + 20 ≤ 900 → r = m_taped2 ∧ m_taped2.toInt = m_taped.toInt + 20)) ∧ (R_m_feedX p0 p1 p2 p3 p4 m_taped d_tape d_tape2 m_taped2 m_thrown2 r) ∧ w = [(cO11_i1r1i10r1i2r5i2r12i3r4i2 h0 m_thrown2 a_tape m_taped2 m_size m_at m_end m_token m_whole m_nameSize m_fault m_place m_trouble a_letters m_failed m_hasHouse a_r a_fresh a_st a_undone a_kept m_undos m_images a_from a_begin a_motor a_change a_startFrame a_changeFrame a_lostAt a_blackAt a_slips a_leftArc a_died a_arcs m_bestSum m_nearest m_nearestTown a_there a_backAt a_sorted a_parts m_seed1 m_darkNow), (cAI g a_tape 900 d_tape2)]) := by
  refine cI.of (by decide) (Nat.le_of_ble_eq_true rfl) ?_
  intro p e s m args below meth c A X hr hi
  refine k_lveq [(0, .ref h0), (1, .int p0), (2, .int p1), (3, .int p2), (4, .int p3), (5, .int p4)] rfl ?_
  refine k_aload_n X dX11_feed_k0.1.1.1.1 0 rfl ?_
  refine k_iconst (v := 0) X dX11_feed_k0.1.1.1.2 ic_0 ?_
  refine k_put (ci := 11) [(cO11_i1r1i10r1i2r5i2r12i3r4i2 h0 0 a_tape m_taped m_size m_at m_end m_token m_whole m_nameSize m_fault m_place m_trouble a_letters m_failed m_hasHouse a_r a_fresh a_st a_undone a_kept m_undos m_images a_from a_begin a_motor a_change a_startFrame a_changeFrame a_lostAt a_blackAt a_slips a_leftArc a_died a_arcs m_bestSum m_nearest m_nearestTown a_there a_backAt a_sorted a_parts m_seed1 m_darkNow), (cAI g a_tape 900 d_tape)] X inlX11 rfl tyX11_ok nmX11 0 (nlt_e rfl) rfl dX11_feed_k0.1.1.2.1 mw204 0 rfl rfl rfl (Nat.le_of_ble_eq_true rfl) rfl ?_
  refine k_aload_n X dX11_feed_k0.1.1.2.2 0 rfl ?_
  refine k_get (ci := 11) X inlX11 rfl 2 (nlt_e rfl) dX11_feed_k0.1.2.1.1 mw205 0 rfl rfl ?_
  refine k_bipush (v := 20) X dX11_feed_k0.1.2.1.2 bi_20 ?_
  refine k_iadd X dX11_feed_k0.1.2.2.1 ?_
  refine k_nm (fun z_1 ez_1 => ?_)
  have i_2 : z_1.toInt = m_taped.toInt + 20 := in_add ez_1 hv_m_taped iq_20_20_20 (zle_e rfl) (zle_e rfl)
  have iv_3 : IV z_1 20 920 := iz1 i_2 hv_m_taped (zle_e rfl) (zle_e rfl)
  refine k_sipush (v := 900) X dX11_feed_k0.1.2.2.2 si_900 ?_
  refine k_ic_le 20 X dX11_feed_k0.2.1.1.1 (jp_e rfl) (fun h_4 => ?_) (fun h_4 => ?_)
  · skip
    have j_5 : z_1.toInt ≤ 900 := iv_le h_4
    have iv_6 : IV z_1 20 900 := iv_leL (iv_le h_4) iv_3 iq_900_900_900 (zle_e rfl)
    have iv_7 : IV m_taped 0 880 := by have := hv_m_taped; have := iv_6; rw [IV]; omega
    refine k_iconst (v := 0) X dX11_feed_k0.2.1.2.2 ic_0 ?_
    refine k_istore [(6, .int 0), (0, .ref h0), (1, .int p0), (2, .int p1), (3, .int p2), (4, .int p3), (5, .int p4)] X dX11_feed_k0.2.2.1.1 (nlt_e rfl) rfl ?_
    refine (fun hL : ∀ (nn_15 : Nat) (uf_8 : Nat → Int32) (u_9 : Int32) (u_11 : Int32), (20 - u_9.toInt).toNat = nn_15 → (IV u_9 0 255) → (IV u_11 0 900) → (u_9.toInt ≤ 20) → (u_11.toInt = m_taped.toInt + u_9.toInt) → (∀ (d_tape2 : Nat → Int32) (m_taped2 : Int32) (m_thrown2 : Int32) (r : Int32), (∃ n_0 : Nat, R_m_feedX_L0 p0 p1 p2 p3 p4 (fun (uf_8 : Nat → Int32) (u_11 : Int32) => d_tape2 = uf_8 ∧ m_taped2 = u_11 ∧ m_thrown2 = 0 ∧ r = u_11) n_0 uf_8 u_9 u_11) → R_m_feedX p0 p1 p2 p3 p4 m_taped d_tape d_tape2 m_taped2 m_thrown2 r) → Wk p l e _ s m args below meth c _ A g _ _ _ [(cO11_i1r1i10r1i2r5i2r12i3r4i2 h0 0 a_tape u_11 m_size m_at m_end m_token m_whole m_nameSize m_fault m_place m_trouble a_letters m_failed m_hasHouse a_r a_fresh a_st a_undone a_kept m_undos m_images a_from a_begin a_motor a_change a_startFrame a_changeFrame a_lostAt a_blackAt a_slips a_leftArc a_died a_arcs m_bestSum m_nearest m_nearestTown a_there a_backAt a_sorted a_parts m_seed1 m_darkNow), (cAI g a_tape 900 uf_8)] [(6, .int u_9), (0, .ref h0), (1, .int p0), (2, .int p1), (3, .int p2), (4, .int p3), (5, .int p4)] 23 [] => hL _ d_tape 0 m_taped rfl (iv_w iq_0_0_0 (zle_e rfl) (zle_e rfl)) (iv_w iv_7 (zle_e rfl) (zle_e rfl)) (by decide) (by have e0 : (0 : Int32).toInt = 0 := (by decide); omega) (fun d_tape2 m_taped2 m_thrown2 r h => ⟨z_1, ez_1, (Or.inl ⟨h_4, h⟩)⟩)) ?_
    refine fun nn_15 => Nat.strongRecOn nn_15 (fun nn_15 ih_17 => ?_)
    intro uf_8 u_9 u_11 hm_16 hv_10 hv_12 hx_13 hx_14 KH_0
    refine k_iload X dX11_feed_k0.2.2.1.2 0 rfl ?_
    refine k_bipush (v := 20) X dX11_feed_k0.2.2.2.1 bi_20 ?_
    refine k_ic_ge 120 X dX11_feed_k0.2.2.2.2 (jp_e rfl) (fun h_18 => ?_) (fun h_18 => ?_)
    · skip
      have j_19 : 20 ≤ u_9.toInt := iv_le h_18
      have iv_20 : IV u_9 20 255 := iv_leR (iv_le h_18) iq_20_20_20 hv_10 (zle_e rfl)
      refine k_aload_n X dX11_feed_k3.2.2.2.1 1 rfl ?_
      refine k_get (ci := 11) X inlX11 rfl 2 (nlt_e rfl) dX11_feed_k3.2.2.2.2 mw205 0 rfl rfl ?_
      exact k_iret X hr dX11_feed_k4 (Nat.le_of_ble_eq_true rfl) (Nat.le_of_ble_eq_true rfl) [0, 1] (vnd_e rfl) rfl rfl ⟨uf_8, u_11, 0, (iv_w hv_12 (zle_e rfl) (zle_e rfl)), (by refine ⟨fun q => ?_, fun q => ?_⟩ <;> first | exact ⟨rfl, rfl⟩ | exact ⟨rfl, by omega⟩ | (exfalso; omega)), (KH_0 _ _ _ _ ⟨0 + 1, (Or.inl ⟨h_18, ⟨rfl, rfl, rfl, rfl⟩⟩)⟩), rfl⟩
    · skip
      have j_21 : u_9.toInt < 20 := iv_nle h_18
      have iv_22 : IV u_9 0 19 := iv_ltL (iv_nle h_18) hv_10 iq_20_20_20 (zle_e rfl)
      refine k_iload X dX11_feed_k1.1.1.1.1 0 rfl ?_
      refine k_iconst (v := 4) X dX11_feed_k1.1.1.1.2 ic_4 ?_
      refine k_ic_ge 40 X dX11_feed_k1.1.1.2.1 (jp_e rfl) (fun h_23 => ?_) (fun h_23 => ?_)
      · skip
        have j_24 : 4 ≤ u_9.toInt := iv_le h_23
        have iv_25 : IV u_9 4 19 := iv_leR (iv_le h_23) iq_4_4_4 iv_22 (zle_e rfl)
        refine k_iload X dX11_feed_k1.1.2.1.2 0 rfl ?_
        refine k_bipush (v := 8) X dX11_feed_k1.1.2.2.1 bi_8 ?_
        refine k_ic_ge 51 X dX11_feed_k1.1.2.2.2 (jp_e rfl) (fun h_26 => ?_) (fun h_26 => ?_)
        · skip
          have j_27 : 8 ≤ u_9.toInt := iv_le h_26
          have iv_28 : IV u_9 8 19 := iv_leR (iv_le h_26) iq_8_8_8 iv_25 (zle_e rfl)
          refine k_iload X dX11_feed_k1.2.1.2.1 0 rfl ?_
          refine k_bipush (v := 12) X dX11_feed_k1.2.1.2.2 bi_12 ?_
          refine k_ic_ge 62 X dX11_feed_k1.2.2.1.1 (jp_e rfl) (fun h_29 => ?_) (fun h_29 => ?_)
          · skip
            have j_30 : 12 ≤ u_9.toInt := iv_le h_29
            have iv_31 : IV u_9 12 19 := iv_leR (iv_le h_29) iq_12_12_12 iv_28 (zle_e rfl)
            refine k_iload X dX11_feed_k1.2.2.2.2 0 rfl ?_
            refine k_bipush (v := 16) X dX11_feed_k2.1.1.1.1 bi_16 ?_
            refine k_ic_ge 74 X dX11_feed_k2.1.1.1.2 (jp_e rfl) (fun h_32 => ?_) (fun h_32 => ?_)
            · skip
              have j_33 : 16 ≤ u_9.toInt := iv_le h_32
              have iv_34 : IV u_9 16 19 := iv_leR (iv_le h_32) iq_16_16_16 iv_31 (zle_e rfl)
              refine k_iload X dX11_feed_k2.1.2.1.1 6 rfl ?_
              refine k_istore [(7, .int p4), (6, .int u_9), (0, .ref h0), (1, .int p0), (2, .int p1), (3, .int p2), (4, .int p3), (5, .int p4)] X dX11_feed_k2.1.2.1.2 (nlt_e rfl) rfl ?_
              have iv_35 : IV u_11 0 899 := by have := hv_12; have := hv_m_taped; rw [IV]; omega
              refine k_aload_n X dX11_feed_k2.1.2.2.1 2 rfl ?_
              refine k_get (ci := 11) X inlX11 rfl 1 (nlt_e rfl) dX11_feed_k2.1.2.2.2 mw167 0 rfl rfl ?_
              refine k_aload_n X dX11_feed_k2.2.1.1.1 2 rfl ?_
              refine k_get (ci := 11) X inlX11 rfl 2 (nlt_e rfl) dX11_feed_k2.2.1.1.2 mw205 0 rfl rfl ?_
              refine k_iload X dX11_feed_k2.2.1.2.1 0 rfl ?_
              refine k_bipush (v := 24) X dX11_feed_k2.2.1.2.2 bi_24 ?_
              refine k_bipush (v := 8) X dX11_feed_k2.2.2.1.1 bi_8 ?_
              refine k_iload X dX11_feed_k2.2.2.1.2 1 rfl ?_
              refine k_iconst (v := 4) X dX11_feed_k2.2.2.2.1 ic_4 ?_
              refine k_irem X dX11_feed_k2.2.2.2.2 (by decide) ?_
              refine k_nm (fun z_36 ez_36 => ?_)
              have iv_37 : IV z_36 0 3 := iv_rem (k := 4) ez_36 iv_34 (by decide) (by decide) (by decide)
              refine k_imul X dX11_feed_k3.1.1.1.1 ?_
              refine k_nm (fun z_38 ez_38 => ?_)
              have i_39 : z_38.toInt = 8 * z_36.toInt := in_mul ez_38 (by decide) (zle_e rfl) iv_37 (zle_e rfl) (zle_e rfl)
              have iv_40 : IV z_38 0 24 := iz4 i_39 iv_37 (zle_e rfl) (zle_e rfl) (zle_e rfl)
              refine k_isub X dX11_feed_k3.1.1.1.2 ?_
              refine k_nm (fun z_41 ez_41 => ?_)
              have i_42 : z_41.toInt = 24 - z_38.toInt := in_sub ez_41 iq_24_24_24 iv_40 (zle_e rfl) (zle_e rfl)
              have iv_43 : IV z_41 0 24 := iz7 i_42 iv_40 (zle_e rfl) (zle_e rfl)
              refine k_ishr X dX11_feed_k3.1.1.2.1 ?_
              refine k_nm (fun z_44 ez_44 => ?_)
              refine k_sipush (v := 255) X dX11_feed_k3.1.1.2.2 si_255 ?_
              refine k_iand X dX11_feed_k3.1.2.1.1 ?_
              refine k_nm (fun z_45 ez_45 => ?_)
              have iv_46 : IV z_45 0 255 := iv_and (ez_45.trans (Int32.and_comm _ _)) iq_255_255_255 (by decide)
              refine k_iast [(cO11_i1r1i10r1i2r5i2r12i3r4i2 h0 0 a_tape u_11 m_size m_at m_end m_token m_whole m_nameSize m_fault m_place m_trouble a_letters m_failed m_hasHouse a_r a_fresh a_st a_undone a_kept m_undos m_images a_from a_begin a_motor a_change a_startFrame a_changeFrame a_lostAt a_blackAt a_slips a_leftArc a_died a_arcs m_bestSum m_nearest m_nearestTown a_there a_backAt a_sorted a_parts m_seed1 m_darkNow), (cAI g a_tape 900 (upd uf_8 (u_11 : Int32).toNatClampNeg z_45))] X dX11_feed_k3.1.2.1.2 1 rfl (iv_in iv_35 (zle_e rfl) (zle_l rfl)) rfl ?_
              refine k_aload_n X dX11_feed_k3.1.2.2.1 2 rfl ?_
              refine k_dup X dX11_feed_k3.1.2.2.2 rfl ?_
              refine k_get (ci := 11) X inlX11 rfl 2 (nlt_e rfl) dX11_feed_k3.2.1.1.1 mw205 0 rfl rfl ?_
              refine k_iconst (v := 1) X dX11_feed_k3.2.1.1.2 ic_1 ?_
              refine k_iadd X dX11_feed_k3.2.1.2.1 ?_
              refine k_nm (fun z_48 ez_48 => ?_)
              have i_49 : z_48.toInt = u_11.toInt + 1 := in_add ez_48 iv_35 iq_1_1_1 (zle_e rfl) (zle_e rfl)
              have iv_50 : IV z_48 1 900 := iz1 i_49 iv_35 (zle_e rfl) (zle_e rfl)
              refine k_put (ci := 11) [(cO11_i1r1i10r1i2r5i2r12i3r4i2 h0 0 a_tape z_48 m_size m_at m_end m_token m_whole m_nameSize m_fault m_place m_trouble a_letters m_failed m_hasHouse a_r a_fresh a_st a_undone a_kept m_undos m_images a_from a_begin a_motor a_change a_startFrame a_changeFrame a_lostAt a_blackAt a_slips a_leftArc a_died a_arcs m_bestSum m_nearest m_nearestTown a_there a_backAt a_sorted a_parts m_seed1 m_darkNow), (cAI g a_tape 900 (upd uf_8 (u_11 : Int32).toNatClampNeg z_45))] X inlX11 rfl tyX11_ok nmX11 2 (nlt_e rfl) rfl dX11_feed_k3.2.1.2.2 mw205 0 rfl rfl rfl (Nat.le_of_ble_eq_true rfl) rfl ?_
              obtain ⟨z_51, ez_51⟩ : ∃ y : Int32, u_9 + Int32.ofInt 1 = y := ⟨_, rfl⟩
              refine k_iinc z_51 [(6, .int z_51), (7, .int p4), (0, .ref h0), (1, .int p0), (2, .int p1), (3, .int p2), (4, .int p3), (5, .int p4)] 1 X dX11_feed_k3.2.2.1.1 rfl ez_51 (nlt_e rfl) rfl ?_
              have i_52 : z_51.toInt = u_9.toInt + 1 := in_inc ez_51 (oin_e rfl) iv_34 (zle_e rfl) (zle_e rfl)
              have iv_53 : IV z_51 17 20 := iz1 i_52 iv_34 (zle_e rfl) (zle_e rfl)
              refine k_goto 23 X dX11_feed_k3.2.2.1.2 (jp_e rfl) ?_
              refine k_lv [(6, .int z_51), (0, .ref h0), (1, .int p0), (2, .int p1), (3, .int p2), (4, .int p3), (5, .int p4)] [0, 2, 3, 4, 5, 6, 7] rfl ?_
              exact ih_17 _ (by omega) ((upd uf_8 (u_11 : Int32).toNatClampNeg z_45)) z_51 z_48 rfl (iv_w iv_53 (zle_e rfl) (zle_e rfl)) (iv_w iv_50 (zle_e rfl) (zle_e rfl)) (by omega) (by omega) (fun d_tape2 m_taped2 m_thrown2 r h => h.elim (fun n_0 q => (KH_0 _ _ _ _ ⟨n_0 + 1, (Or.inr ⟨h_18, (Or.inl ⟨h_23, (Or.inl ⟨h_26, (Or.inl ⟨h_29, (Or.inl ⟨h_32, ⟨z_36, ez_36, ⟨z_38, ez_38, ⟨z_41, ez_41, ⟨z_44, ez_44, ⟨z_45, ez_45, ⟨z_48, ez_48, ⟨z_51, ez_51, q⟩⟩⟩⟩⟩⟩⟩⟩)⟩)⟩)⟩)⟩)⟩)))
            · skip
              have j_54 : u_9.toInt < 16 := iv_nle h_32
              have iv_55 : IV u_9 12 15 := iv_ltL (iv_nle h_32) iv_31 iq_16_16_16 (zle_e rfl)
              refine k_iload X dX11_feed_k2.1.1.2.1 5 rfl ?_
              refine k_goto 76 X dX11_feed_k2.1.1.2.2 (jp_e rfl) ?_
              refine k_istore [(7, .int p3), (6, .int u_9), (0, .ref h0), (1, .int p0), (2, .int p1), (3, .int p2), (4, .int p3), (5, .int p4)] X dX11_feed_k2.1.2.1.2 (nlt_e rfl) rfl ?_
              have iv_56 : IV u_11 0 899 := by have := hv_12; have := hv_m_taped; rw [IV]; omega
              refine k_aload_n X dX11_feed_k2.1.2.2.1 2 rfl ?_
              refine k_get (ci := 11) X inlX11 rfl 1 (nlt_e rfl) dX11_feed_k2.1.2.2.2 mw167 0 rfl rfl ?_
              refine k_aload_n X dX11_feed_k2.2.1.1.1 2 rfl ?_
              refine k_get (ci := 11) X inlX11 rfl 2 (nlt_e rfl) dX11_feed_k2.2.1.1.2 mw205 0 rfl rfl ?_
              refine k_iload X dX11_feed_k2.2.1.2.1 0 rfl ?_
              refine k_bipush (v := 24) X dX11_feed_k2.2.1.2.2 bi_24 ?_
              refine k_bipush (v := 8) X dX11_feed_k2.2.2.1.1 bi_8 ?_
              refine k_iload X dX11_feed_k2.2.2.1.2 1 rfl ?_
              refine k_iconst (v := 4) X dX11_feed_k2.2.2.2.1 ic_4 ?_
              refine k_irem X dX11_feed_k2.2.2.2.2 (by decide) ?_
              refine k_nm (fun z_57 ez_57 => ?_)
              have iv_58 : IV z_57 0 3 := iv_rem (k := 4) ez_57 iv_55 (by decide) (by decide) (by decide)
              refine k_imul X dX11_feed_k3.1.1.1.1 ?_
              refine k_nm (fun z_59 ez_59 => ?_)
              have i_60 : z_59.toInt = 8 * z_57.toInt := in_mul ez_59 (by decide) (zle_e rfl) iv_58 (zle_e rfl) (zle_e rfl)
              have iv_61 : IV z_59 0 24 := iz4 i_60 iv_58 (zle_e rfl) (zle_e rfl) (zle_e rfl)
              refine k_isub X dX11_feed_k3.1.1.1.2 ?_
              refine k_nm (fun z_62 ez_62 => ?_)
              have i_63 : z_62.toInt = 24 - z_59.toInt := in_sub ez_62 iq_24_24_24 iv_61 (zle_e rfl) (zle_e rfl)
              have iv_64 : IV z_62 0 24 := iz7 i_63 iv_61 (zle_e rfl) (zle_e rfl)
              refine k_ishr X dX11_feed_k3.1.1.2.1 ?_
              refine k_nm (fun z_65 ez_65 => ?_)
              refine k_sipush (v := 255) X dX11_feed_k3.1.1.2.2 si_255 ?_
              refine k_iand X dX11_feed_k3.1.2.1.1 ?_
              refine k_nm (fun z_66 ez_66 => ?_)
              have iv_67 : IV z_66 0 255 := iv_and (ez_66.trans (Int32.and_comm _ _)) iq_255_255_255 (by decide)
              refine k_iast [(cO11_i1r1i10r1i2r5i2r12i3r4i2 h0 0 a_tape u_11 m_size m_at m_end m_token m_whole m_nameSize m_fault m_place m_trouble a_letters m_failed m_hasHouse a_r a_fresh a_st a_undone a_kept m_undos m_images a_from a_begin a_motor a_change a_startFrame a_changeFrame a_lostAt a_blackAt a_slips a_leftArc a_died a_arcs m_bestSum m_nearest m_nearestTown a_there a_backAt a_sorted a_parts m_seed1 m_darkNow), (cAI g a_tape 900 (upd uf_8 (u_11 : Int32).toNatClampNeg z_66))] X dX11_feed_k3.1.2.1.2 1 rfl (iv_in iv_56 (zle_e rfl) (zle_l rfl)) rfl ?_
              refine k_aload_n X dX11_feed_k3.1.2.2.1 2 rfl ?_
              refine k_dup X dX11_feed_k3.1.2.2.2 rfl ?_
              refine k_get (ci := 11) X inlX11 rfl 2 (nlt_e rfl) dX11_feed_k3.2.1.1.1 mw205 0 rfl rfl ?_
              refine k_iconst (v := 1) X dX11_feed_k3.2.1.1.2 ic_1 ?_
              refine k_iadd X dX11_feed_k3.2.1.2.1 ?_
              refine k_nm (fun z_69 ez_69 => ?_)
              have i_70 : z_69.toInt = u_11.toInt + 1 := in_add ez_69 iv_56 iq_1_1_1 (zle_e rfl) (zle_e rfl)
              have iv_71 : IV z_69 1 900 := iz1 i_70 iv_56 (zle_e rfl) (zle_e rfl)
              refine k_put (ci := 11) [(cO11_i1r1i10r1i2r5i2r12i3r4i2 h0 0 a_tape z_69 m_size m_at m_end m_token m_whole m_nameSize m_fault m_place m_trouble a_letters m_failed m_hasHouse a_r a_fresh a_st a_undone a_kept m_undos m_images a_from a_begin a_motor a_change a_startFrame a_changeFrame a_lostAt a_blackAt a_slips a_leftArc a_died a_arcs m_bestSum m_nearest m_nearestTown a_there a_backAt a_sorted a_parts m_seed1 m_darkNow), (cAI g a_tape 900 (upd uf_8 (u_11 : Int32).toNatClampNeg z_66))] X inlX11 rfl tyX11_ok nmX11 2 (nlt_e rfl) rfl dX11_feed_k3.2.1.2.2 mw205 0 rfl rfl rfl (Nat.le_of_ble_eq_true rfl) rfl ?_
              obtain ⟨z_72, ez_72⟩ : ∃ y : Int32, u_9 + Int32.ofInt 1 = y := ⟨_, rfl⟩
              refine k_iinc z_72 [(6, .int z_72), (7, .int p3), (0, .ref h0), (1, .int p0), (2, .int p1), (3, .int p2), (4, .int p3), (5, .int p4)] 1 X dX11_feed_k3.2.2.1.1 rfl ez_72 (nlt_e rfl) rfl ?_
              have i_73 : z_72.toInt = u_9.toInt + 1 := in_inc ez_72 (oin_e rfl) iv_55 (zle_e rfl) (zle_e rfl)
              have iv_74 : IV z_72 13 16 := iz1 i_73 iv_55 (zle_e rfl) (zle_e rfl)
              refine k_goto 23 X dX11_feed_k3.2.2.1.2 (jp_e rfl) ?_
              refine k_lv [(6, .int z_72), (0, .ref h0), (1, .int p0), (2, .int p1), (3, .int p2), (4, .int p3), (5, .int p4)] [0, 2, 3, 4, 5, 6, 7] rfl ?_
              exact ih_17 _ (by omega) ((upd uf_8 (u_11 : Int32).toNatClampNeg z_66)) z_72 z_69 rfl (iv_w iv_74 (zle_e rfl) (zle_e rfl)) (iv_w iv_71 (zle_e rfl) (zle_e rfl)) (by omega) (by omega) (fun d_tape2 m_taped2 m_thrown2 r h => h.elim (fun n_0 q => (KH_0 _ _ _ _ ⟨n_0 + 1, (Or.inr ⟨h_18, (Or.inl ⟨h_23, (Or.inl ⟨h_26, (Or.inl ⟨h_29, (Or.inr ⟨h_32, ⟨z_57, ez_57, ⟨z_59, ez_59, ⟨z_62, ez_62, ⟨z_65, ez_65, ⟨z_66, ez_66, ⟨z_69, ez_69, ⟨z_72, ez_72, q⟩⟩⟩⟩⟩⟩⟩⟩)⟩)⟩)⟩)⟩)⟩)))
          · skip
            have j_75 : u_9.toInt < 12 := iv_nle h_29
            have iv_76 : IV u_9 8 11 := iv_ltL (iv_nle h_29) iv_28 iq_12_12_12 (zle_e rfl)
            refine k_iload_n X dX11_feed_k1.2.2.1.2 4 rfl ?_
            refine k_goto 76 X dX11_feed_k1.2.2.2.1 (jp_e rfl) ?_
            refine k_istore [(7, .int p2), (6, .int u_9), (0, .ref h0), (1, .int p0), (2, .int p1), (3, .int p2), (4, .int p3), (5, .int p4)] X dX11_feed_k2.1.2.1.2 (nlt_e rfl) rfl ?_
            have iv_77 : IV u_11 0 899 := by have := hv_12; have := hv_m_taped; rw [IV]; omega
            refine k_aload_n X dX11_feed_k2.1.2.2.1 2 rfl ?_
            refine k_get (ci := 11) X inlX11 rfl 1 (nlt_e rfl) dX11_feed_k2.1.2.2.2 mw167 0 rfl rfl ?_
            refine k_aload_n X dX11_feed_k2.2.1.1.1 2 rfl ?_
            refine k_get (ci := 11) X inlX11 rfl 2 (nlt_e rfl) dX11_feed_k2.2.1.1.2 mw205 0 rfl rfl ?_
            refine k_iload X dX11_feed_k2.2.1.2.1 0 rfl ?_
            refine k_bipush (v := 24) X dX11_feed_k2.2.1.2.2 bi_24 ?_
            refine k_bipush (v := 8) X dX11_feed_k2.2.2.1.1 bi_8 ?_
            refine k_iload X dX11_feed_k2.2.2.1.2 1 rfl ?_
            refine k_iconst (v := 4) X dX11_feed_k2.2.2.2.1 ic_4 ?_
            refine k_irem X dX11_feed_k2.2.2.2.2 (by decide) ?_
            refine k_nm (fun z_78 ez_78 => ?_)
            have iv_79 : IV z_78 0 3 := iv_rem (k := 4) ez_78 iv_76 (by decide) (by decide) (by decide)
            refine k_imul X dX11_feed_k3.1.1.1.1 ?_
            refine k_nm (fun z_80 ez_80 => ?_)
            have i_81 : z_80.toInt = 8 * z_78.toInt := in_mul ez_80 (by decide) (zle_e rfl) iv_79 (zle_e rfl) (zle_e rfl)
            have iv_82 : IV z_80 0 24 := iz4 i_81 iv_79 (zle_e rfl) (zle_e rfl) (zle_e rfl)
            refine k_isub X dX11_feed_k3.1.1.1.2 ?_
            refine k_nm (fun z_83 ez_83 => ?_)
            have i_84 : z_83.toInt = 24 - z_80.toInt := in_sub ez_83 iq_24_24_24 iv_82 (zle_e rfl) (zle_e rfl)
            have iv_85 : IV z_83 0 24 := iz7 i_84 iv_82 (zle_e rfl) (zle_e rfl)
            refine k_ishr X dX11_feed_k3.1.1.2.1 ?_
            refine k_nm (fun z_86 ez_86 => ?_)
            refine k_sipush (v := 255) X dX11_feed_k3.1.1.2.2 si_255 ?_
            refine k_iand X dX11_feed_k3.1.2.1.1 ?_
            refine k_nm (fun z_87 ez_87 => ?_)
            have iv_88 : IV z_87 0 255 := iv_and (ez_87.trans (Int32.and_comm _ _)) iq_255_255_255 (by decide)
            refine k_iast [(cO11_i1r1i10r1i2r5i2r12i3r4i2 h0 0 a_tape u_11 m_size m_at m_end m_token m_whole m_nameSize m_fault m_place m_trouble a_letters m_failed m_hasHouse a_r a_fresh a_st a_undone a_kept m_undos m_images a_from a_begin a_motor a_change a_startFrame a_changeFrame a_lostAt a_blackAt a_slips a_leftArc a_died a_arcs m_bestSum m_nearest m_nearestTown a_there a_backAt a_sorted a_parts m_seed1 m_darkNow), (cAI g a_tape 900 (upd uf_8 (u_11 : Int32).toNatClampNeg z_87))] X dX11_feed_k3.1.2.1.2 1 rfl (iv_in iv_77 (zle_e rfl) (zle_l rfl)) rfl ?_
            refine k_aload_n X dX11_feed_k3.1.2.2.1 2 rfl ?_
            refine k_dup X dX11_feed_k3.1.2.2.2 rfl ?_
            refine k_get (ci := 11) X inlX11 rfl 2 (nlt_e rfl) dX11_feed_k3.2.1.1.1 mw205 0 rfl rfl ?_
            refine k_iconst (v := 1) X dX11_feed_k3.2.1.1.2 ic_1 ?_
            refine k_iadd X dX11_feed_k3.2.1.2.1 ?_
            refine k_nm (fun z_90 ez_90 => ?_)
            have i_91 : z_90.toInt = u_11.toInt + 1 := in_add ez_90 iv_77 iq_1_1_1 (zle_e rfl) (zle_e rfl)
            have iv_92 : IV z_90 1 900 := iz1 i_91 iv_77 (zle_e rfl) (zle_e rfl)
            refine k_put (ci := 11) [(cO11_i1r1i10r1i2r5i2r12i3r4i2 h0 0 a_tape z_90 m_size m_at m_end m_token m_whole m_nameSize m_fault m_place m_trouble a_letters m_failed m_hasHouse a_r a_fresh a_st a_undone a_kept m_undos m_images a_from a_begin a_motor a_change a_startFrame a_changeFrame a_lostAt a_blackAt a_slips a_leftArc a_died a_arcs m_bestSum m_nearest m_nearestTown a_there a_backAt a_sorted a_parts m_seed1 m_darkNow), (cAI g a_tape 900 (upd uf_8 (u_11 : Int32).toNatClampNeg z_87))] X inlX11 rfl tyX11_ok nmX11 2 (nlt_e rfl) rfl dX11_feed_k3.2.1.2.2 mw205 0 rfl rfl rfl (Nat.le_of_ble_eq_true rfl) rfl ?_
            obtain ⟨z_93, ez_93⟩ : ∃ y : Int32, u_9 + Int32.ofInt 1 = y := ⟨_, rfl⟩
            refine k_iinc z_93 [(6, .int z_93), (7, .int p2), (0, .ref h0), (1, .int p0), (2, .int p1), (3, .int p2), (4, .int p3), (5, .int p4)] 1 X dX11_feed_k3.2.2.1.1 rfl ez_93 (nlt_e rfl) rfl ?_
            have i_94 : z_93.toInt = u_9.toInt + 1 := in_inc ez_93 (oin_e rfl) iv_76 (zle_e rfl) (zle_e rfl)
            have iv_95 : IV z_93 9 12 := iz1 i_94 iv_76 (zle_e rfl) (zle_e rfl)
            refine k_goto 23 X dX11_feed_k3.2.2.1.2 (jp_e rfl) ?_
            refine k_lv [(6, .int z_93), (0, .ref h0), (1, .int p0), (2, .int p1), (3, .int p2), (4, .int p3), (5, .int p4)] [0, 2, 3, 4, 5, 6, 7] rfl ?_
            exact ih_17 _ (by omega) ((upd uf_8 (u_11 : Int32).toNatClampNeg z_87)) z_93 z_90 rfl (iv_w iv_95 (zle_e rfl) (zle_e rfl)) (iv_w iv_92 (zle_e rfl) (zle_e rfl)) (by omega) (by omega) (fun d_tape2 m_taped2 m_thrown2 r h => h.elim (fun n_0 q => (KH_0 _ _ _ _ ⟨n_0 + 1, (Or.inr ⟨h_18, (Or.inl ⟨h_23, (Or.inl ⟨h_26, (Or.inr ⟨h_29, ⟨z_78, ez_78, ⟨z_80, ez_80, ⟨z_83, ez_83, ⟨z_86, ez_86, ⟨z_87, ez_87, ⟨z_90, ez_90, ⟨z_93, ez_93, q⟩⟩⟩⟩⟩⟩⟩⟩)⟩)⟩)⟩)⟩)))
        · skip
          have j_96 : u_9.toInt < 8 := iv_nle h_26
          have iv_97 : IV u_9 4 7 := iv_ltL (iv_nle h_26) iv_25 iq_8_8_8 (zle_e rfl)
          refine k_iload_n X dX11_feed_k1.2.1.1.1 3 rfl ?_
          refine k_goto 76 X dX11_feed_k1.2.1.1.2 (jp_e rfl) ?_
          refine k_istore [(7, .int p1), (6, .int u_9), (0, .ref h0), (1, .int p0), (2, .int p1), (3, .int p2), (4, .int p3), (5, .int p4)] X dX11_feed_k2.1.2.1.2 (nlt_e rfl) rfl ?_
          have iv_98 : IV u_11 0 899 := by have := hv_12; have := hv_m_taped; rw [IV]; omega
          refine k_aload_n X dX11_feed_k2.1.2.2.1 2 rfl ?_
          refine k_get (ci := 11) X inlX11 rfl 1 (nlt_e rfl) dX11_feed_k2.1.2.2.2 mw167 0 rfl rfl ?_
          refine k_aload_n X dX11_feed_k2.2.1.1.1 2 rfl ?_
          refine k_get (ci := 11) X inlX11 rfl 2 (nlt_e rfl) dX11_feed_k2.2.1.1.2 mw205 0 rfl rfl ?_
          refine k_iload X dX11_feed_k2.2.1.2.1 0 rfl ?_
          refine k_bipush (v := 24) X dX11_feed_k2.2.1.2.2 bi_24 ?_
          refine k_bipush (v := 8) X dX11_feed_k2.2.2.1.1 bi_8 ?_
          refine k_iload X dX11_feed_k2.2.2.1.2 1 rfl ?_
          refine k_iconst (v := 4) X dX11_feed_k2.2.2.2.1 ic_4 ?_
          refine k_irem X dX11_feed_k2.2.2.2.2 (by decide) ?_
          refine k_nm (fun z_99 ez_99 => ?_)
          have iv_100 : IV z_99 0 3 := iv_rem (k := 4) ez_99 iv_97 (by decide) (by decide) (by decide)
          refine k_imul X dX11_feed_k3.1.1.1.1 ?_
          refine k_nm (fun z_101 ez_101 => ?_)
          have i_102 : z_101.toInt = 8 * z_99.toInt := in_mul ez_101 (by decide) (zle_e rfl) iv_100 (zle_e rfl) (zle_e rfl)
          have iv_103 : IV z_101 0 24 := iz4 i_102 iv_100 (zle_e rfl) (zle_e rfl) (zle_e rfl)
          refine k_isub X dX11_feed_k3.1.1.1.2 ?_
          refine k_nm (fun z_104 ez_104 => ?_)
          have i_105 : z_104.toInt = 24 - z_101.toInt := in_sub ez_104 iq_24_24_24 iv_103 (zle_e rfl) (zle_e rfl)
          have iv_106 : IV z_104 0 24 := iz7 i_105 iv_103 (zle_e rfl) (zle_e rfl)
          refine k_ishr X dX11_feed_k3.1.1.2.1 ?_
          refine k_nm (fun z_107 ez_107 => ?_)
          refine k_sipush (v := 255) X dX11_feed_k3.1.1.2.2 si_255 ?_
          refine k_iand X dX11_feed_k3.1.2.1.1 ?_
          refine k_nm (fun z_108 ez_108 => ?_)
          have iv_109 : IV z_108 0 255 := iv_and (ez_108.trans (Int32.and_comm _ _)) iq_255_255_255 (by decide)
          refine k_iast [(cO11_i1r1i10r1i2r5i2r12i3r4i2 h0 0 a_tape u_11 m_size m_at m_end m_token m_whole m_nameSize m_fault m_place m_trouble a_letters m_failed m_hasHouse a_r a_fresh a_st a_undone a_kept m_undos m_images a_from a_begin a_motor a_change a_startFrame a_changeFrame a_lostAt a_blackAt a_slips a_leftArc a_died a_arcs m_bestSum m_nearest m_nearestTown a_there a_backAt a_sorted a_parts m_seed1 m_darkNow), (cAI g a_tape 900 (upd uf_8 (u_11 : Int32).toNatClampNeg z_108))] X dX11_feed_k3.1.2.1.2 1 rfl (iv_in iv_98 (zle_e rfl) (zle_l rfl)) rfl ?_
          refine k_aload_n X dX11_feed_k3.1.2.2.1 2 rfl ?_
          refine k_dup X dX11_feed_k3.1.2.2.2 rfl ?_
          refine k_get (ci := 11) X inlX11 rfl 2 (nlt_e rfl) dX11_feed_k3.2.1.1.1 mw205 0 rfl rfl ?_
          refine k_iconst (v := 1) X dX11_feed_k3.2.1.1.2 ic_1 ?_
          refine k_iadd X dX11_feed_k3.2.1.2.1 ?_
          refine k_nm (fun z_111 ez_111 => ?_)
          have i_112 : z_111.toInt = u_11.toInt + 1 := in_add ez_111 iv_98 iq_1_1_1 (zle_e rfl) (zle_e rfl)
          have iv_113 : IV z_111 1 900 := iz1 i_112 iv_98 (zle_e rfl) (zle_e rfl)
          refine k_put (ci := 11) [(cO11_i1r1i10r1i2r5i2r12i3r4i2 h0 0 a_tape z_111 m_size m_at m_end m_token m_whole m_nameSize m_fault m_place m_trouble a_letters m_failed m_hasHouse a_r a_fresh a_st a_undone a_kept m_undos m_images a_from a_begin a_motor a_change a_startFrame a_changeFrame a_lostAt a_blackAt a_slips a_leftArc a_died a_arcs m_bestSum m_nearest m_nearestTown a_there a_backAt a_sorted a_parts m_seed1 m_darkNow), (cAI g a_tape 900 (upd uf_8 (u_11 : Int32).toNatClampNeg z_108))] X inlX11 rfl tyX11_ok nmX11 2 (nlt_e rfl) rfl dX11_feed_k3.2.1.2.2 mw205 0 rfl rfl rfl (Nat.le_of_ble_eq_true rfl) rfl ?_
          obtain ⟨z_114, ez_114⟩ : ∃ y : Int32, u_9 + Int32.ofInt 1 = y := ⟨_, rfl⟩
          refine k_iinc z_114 [(6, .int z_114), (7, .int p1), (0, .ref h0), (1, .int p0), (2, .int p1), (3, .int p2), (4, .int p3), (5, .int p4)] 1 X dX11_feed_k3.2.2.1.1 rfl ez_114 (nlt_e rfl) rfl ?_
          have i_115 : z_114.toInt = u_9.toInt + 1 := in_inc ez_114 (oin_e rfl) iv_97 (zle_e rfl) (zle_e rfl)
          have iv_116 : IV z_114 5 8 := iz1 i_115 iv_97 (zle_e rfl) (zle_e rfl)
          refine k_goto 23 X dX11_feed_k3.2.2.1.2 (jp_e rfl) ?_
          refine k_lv [(6, .int z_114), (0, .ref h0), (1, .int p0), (2, .int p1), (3, .int p2), (4, .int p3), (5, .int p4)] [0, 2, 3, 4, 5, 6, 7] rfl ?_
          exact ih_17 _ (by omega) ((upd uf_8 (u_11 : Int32).toNatClampNeg z_108)) z_114 z_111 rfl (iv_w iv_116 (zle_e rfl) (zle_e rfl)) (iv_w iv_113 (zle_e rfl) (zle_e rfl)) (by omega) (by omega) (fun d_tape2 m_taped2 m_thrown2 r h => h.elim (fun n_0 q => (KH_0 _ _ _ _ ⟨n_0 + 1, (Or.inr ⟨h_18, (Or.inl ⟨h_23, (Or.inr ⟨h_26, ⟨z_99, ez_99, ⟨z_101, ez_101, ⟨z_104, ez_104, ⟨z_107, ez_107, ⟨z_108, ez_108, ⟨z_111, ez_111, ⟨z_114, ez_114, q⟩⟩⟩⟩⟩⟩⟩⟩)⟩)⟩)⟩)))
      · skip
        have j_117 : u_9.toInt < 4 := iv_nle h_23
        have iv_118 : IV u_9 0 3 := iv_ltL (iv_nle h_23) iv_22 iq_4_4_4 (zle_e rfl)
        refine k_iload_n X dX11_feed_k1.1.1.2.2 2 rfl ?_
        refine k_goto 76 X dX11_feed_k1.1.2.1.1 (jp_e rfl) ?_
        refine k_istore [(7, .int p0), (6, .int u_9), (0, .ref h0), (1, .int p0), (2, .int p1), (3, .int p2), (4, .int p3), (5, .int p4)] X dX11_feed_k2.1.2.1.2 (nlt_e rfl) rfl ?_
        have iv_119 : IV u_11 0 899 := by have := hv_12; have := hv_m_taped; rw [IV]; omega
        refine k_aload_n X dX11_feed_k2.1.2.2.1 2 rfl ?_
        refine k_get (ci := 11) X inlX11 rfl 1 (nlt_e rfl) dX11_feed_k2.1.2.2.2 mw167 0 rfl rfl ?_
        refine k_aload_n X dX11_feed_k2.2.1.1.1 2 rfl ?_
        refine k_get (ci := 11) X inlX11 rfl 2 (nlt_e rfl) dX11_feed_k2.2.1.1.2 mw205 0 rfl rfl ?_
        refine k_iload X dX11_feed_k2.2.1.2.1 0 rfl ?_
        refine k_bipush (v := 24) X dX11_feed_k2.2.1.2.2 bi_24 ?_
        refine k_bipush (v := 8) X dX11_feed_k2.2.2.1.1 bi_8 ?_
        refine k_iload X dX11_feed_k2.2.2.1.2 1 rfl ?_
        refine k_iconst (v := 4) X dX11_feed_k2.2.2.2.1 ic_4 ?_
        refine k_irem X dX11_feed_k2.2.2.2.2 (by decide) ?_
        refine k_nm (fun z_120 ez_120 => ?_)
        have iv_121 : IV z_120 0 3 := iv_rem (k := 4) ez_120 iv_118 (by decide) (by decide) (by decide)
        refine k_imul X dX11_feed_k3.1.1.1.1 ?_
        refine k_nm (fun z_122 ez_122 => ?_)
        have i_123 : z_122.toInt = 8 * z_120.toInt := in_mul ez_122 (by decide) (zle_e rfl) iv_121 (zle_e rfl) (zle_e rfl)
        have iv_124 : IV z_122 0 24 := iz4 i_123 iv_121 (zle_e rfl) (zle_e rfl) (zle_e rfl)
        refine k_isub X dX11_feed_k3.1.1.1.2 ?_
        refine k_nm (fun z_125 ez_125 => ?_)
        have i_126 : z_125.toInt = 24 - z_122.toInt := in_sub ez_125 iq_24_24_24 iv_124 (zle_e rfl) (zle_e rfl)
        have iv_127 : IV z_125 0 24 := iz7 i_126 iv_124 (zle_e rfl) (zle_e rfl)
        refine k_ishr X dX11_feed_k3.1.1.2.1 ?_
        refine k_nm (fun z_128 ez_128 => ?_)
        refine k_sipush (v := 255) X dX11_feed_k3.1.1.2.2 si_255 ?_
        refine k_iand X dX11_feed_k3.1.2.1.1 ?_
        refine k_nm (fun z_129 ez_129 => ?_)
        have iv_130 : IV z_129 0 255 := iv_and (ez_129.trans (Int32.and_comm _ _)) iq_255_255_255 (by decide)
        refine k_iast [(cO11_i1r1i10r1i2r5i2r12i3r4i2 h0 0 a_tape u_11 m_size m_at m_end m_token m_whole m_nameSize m_fault m_place m_trouble a_letters m_failed m_hasHouse a_r a_fresh a_st a_undone a_kept m_undos m_images a_from a_begin a_motor a_change a_startFrame a_changeFrame a_lostAt a_blackAt a_slips a_leftArc a_died a_arcs m_bestSum m_nearest m_nearestTown a_there a_backAt a_sorted a_parts m_seed1 m_darkNow), (cAI g a_tape 900 (upd uf_8 (u_11 : Int32).toNatClampNeg z_129))] X dX11_feed_k3.1.2.1.2 1 rfl (iv_in iv_119 (zle_e rfl) (zle_l rfl)) rfl ?_
        refine k_aload_n X dX11_feed_k3.1.2.2.1 2 rfl ?_
        refine k_dup X dX11_feed_k3.1.2.2.2 rfl ?_
        refine k_get (ci := 11) X inlX11 rfl 2 (nlt_e rfl) dX11_feed_k3.2.1.1.1 mw205 0 rfl rfl ?_
        refine k_iconst (v := 1) X dX11_feed_k3.2.1.1.2 ic_1 ?_
        refine k_iadd X dX11_feed_k3.2.1.2.1 ?_
        refine k_nm (fun z_132 ez_132 => ?_)
        have i_133 : z_132.toInt = u_11.toInt + 1 := in_add ez_132 iv_119 iq_1_1_1 (zle_e rfl) (zle_e rfl)
        have iv_134 : IV z_132 1 900 := iz1 i_133 iv_119 (zle_e rfl) (zle_e rfl)
        refine k_put (ci := 11) [(cO11_i1r1i10r1i2r5i2r12i3r4i2 h0 0 a_tape z_132 m_size m_at m_end m_token m_whole m_nameSize m_fault m_place m_trouble a_letters m_failed m_hasHouse a_r a_fresh a_st a_undone a_kept m_undos m_images a_from a_begin a_motor a_change a_startFrame a_changeFrame a_lostAt a_blackAt a_slips a_leftArc a_died a_arcs m_bestSum m_nearest m_nearestTown a_there a_backAt a_sorted a_parts m_seed1 m_darkNow), (cAI g a_tape 900 (upd uf_8 (u_11 : Int32).toNatClampNeg z_129))] X inlX11 rfl tyX11_ok nmX11 2 (nlt_e rfl) rfl dX11_feed_k3.2.1.2.2 mw205 0 rfl rfl rfl (Nat.le_of_ble_eq_true rfl) rfl ?_
        obtain ⟨z_135, ez_135⟩ : ∃ y : Int32, u_9 + Int32.ofInt 1 = y := ⟨_, rfl⟩
        refine k_iinc z_135 [(6, .int z_135), (7, .int p0), (0, .ref h0), (1, .int p0), (2, .int p1), (3, .int p2), (4, .int p3), (5, .int p4)] 1 X dX11_feed_k3.2.2.1.1 rfl ez_135 (nlt_e rfl) rfl ?_
        have i_136 : z_135.toInt = u_9.toInt + 1 := in_inc ez_135 (oin_e rfl) iv_118 (zle_e rfl) (zle_e rfl)
        have iv_137 : IV z_135 1 4 := iz1 i_136 iv_118 (zle_e rfl) (zle_e rfl)
        refine k_goto 23 X dX11_feed_k3.2.2.1.2 (jp_e rfl) ?_
        refine k_lv [(6, .int z_135), (0, .ref h0), (1, .int p0), (2, .int p1), (3, .int p2), (4, .int p3), (5, .int p4)] [0, 2, 3, 4, 5, 6, 7] rfl ?_
        exact ih_17 _ (by omega) ((upd uf_8 (u_11 : Int32).toNatClampNeg z_129)) z_135 z_132 rfl (iv_w iv_137 (zle_e rfl) (zle_e rfl)) (iv_w iv_134 (zle_e rfl) (zle_e rfl)) (by omega) (by omega) (fun d_tape2 m_taped2 m_thrown2 r h => h.elim (fun n_0 q => (KH_0 _ _ _ _ ⟨n_0 + 1, (Or.inr ⟨h_18, (Or.inr ⟨h_23, ⟨z_120, ez_120, ⟨z_122, ez_122, ⟨z_125, ez_125, ⟨z_128, ez_128, ⟨z_129, ez_129, ⟨z_132, ez_132, ⟨z_135, ez_135, q⟩⟩⟩⟩⟩⟩⟩⟩)⟩)⟩)))
  · skip
    have j_138 : 900 < z_1.toInt := iv_nle h_4
    have iv_139 : IV z_1 901 920 := iv_ltR (iv_nle h_4) iq_900_900_900 iv_3 (zle_e rfl)
    have iv_140 : IV m_taped 881 900 := by have := hv_m_taped; have := iv_139; rw [IV]; omega
    refine k_iconst (v := -1) X dX11_feed_k0.2.1.1.2 ic_m1 ?_
    exact k_iret X hr dX11_feed_k0.2.1.2.1 (Nat.le_of_ble_eq_true rfl) (Nat.le_of_ble_eq_true rfl) [0, 1] (vnd_e rfl) rfl rfl ⟨d_tape, m_taped, 0, (iv_w iv_140 (zle_e rfl) (zle_e rfl)), (by refine ⟨fun q => ?_, fun q => ?_⟩ <;> first | exact ⟨rfl, rfl⟩ | exact ⟨rfl, by omega⟩ | (exfalso; omega)), ⟨z_1, ez_1, (Or.inr ⟨h_4, ⟨rfl, rfl, rfl, rfl⟩⟩)⟩, rfl⟩



set_option maxHeartbeats 4000000 in
set_option maxRecDepth 100000 in
theorem t_add8_3X (l : Launch) (g : Gx) (h0 : Nat) (p0 : Int32) (p1 : Int32) (p2 : Int32) (h0c : Nat) (h0n : Int32) (h0f : Nat → Int32) : cV l g yX8_add cX8_add 4 1 23 0 0 [.ref h0, .int p0, .int p1, .int p2] [(cO8_iiri h0 8 3 h0c h0n), (cAI g h0c 24 h0f)] (fun w => ∃ (h0g : Nat → Int32) (h0k : Int32), (R_t_add8_3X p0 p1 p2 h0n h0f h0g h0k) ∧ w = [(cO8_iiri h0 8 3 h0c h0k), (cAI g h0c 24 h0g)]) := by
  refine cV.of (by decide) (Nat.le_of_ble_eq_true rfl) ?_
  intro p e s m args below meth c A X hr hi
  refine k_lveq [(0, .ref h0), (1, .int p0), (2, .int p1), (3, .int p2)] rfl ?_
  refine k_aload_n X dX8_add_k0.1.1.1.1 0 rfl ?_
  refine k_callVI (n := 0) (As := []) (st := []) X [(cO8_iiri h0 8 3 h0c h0n)] [(cAI g h0c 24 h0f)] [0] [1] (t_isFull l g h0 8 (.int 3) (.ref h0c) h0n) dX8_add_k0.1.1.1.2 mw359 mw344 mw345 mw64 mw346 rfl 8 rfl rfl 0 _ rfl yk_yX8_isFull_0 rfl (Nat.le_of_ble_eq_true rfl) (Nat.le_of_ble_eq_true rfl) (Nat.le_of_ble_eq_true rfl) (Nat.le_of_ble_eq_true rfl) (Nat.le_of_ble_eq_true rfl) rfl rfl (vnd_e rfl) rfl (vnd_e rfl) (dsj_e rfl) ?_
  rintro r_1 w ⟨hr_2, rfl⟩
  refine k_ws [(cAI g h0c 24 h0f), (cO8_iiri h0 8 3 h0c h0n)] rfl ?_
  refine k_if_eq 8 X dX8_add_k0.1.1.2.1 (jp_e rfl) (fun h_3 => ?_) (fun h_3 => ?_)
  · skip
    have iv_4 : IV r_1 0 0 := iv_meet (iv_any r_1) (iv_e h_3 iq_0_0_0) (zle_o rfl) (zle_o rfl)
    refine k_aload_n X dX8_add_k0.1.2.1.1 0 rfl ?_
    refine k_aload_n X dX8_add_k0.1.2.1.2 0 rfl ?_
    refine k_get (ci := 8) X inlX8 rfl 3 (nlt_e rfl) dX8_add_k0.1.2.2.1 mw100 1 rfl rfl ?_
    refine k_iconst (v := 0) X dX8_add_k0.1.2.2.2 ic_0 ?_
    refine k_iload_n X dX8_add_k0.2.1.1.1 1 rfl ?_
    refine k_callVV (n := 3) (As := [.int h0n, .int 0, .int p0]) (st := []) X [(cO8_iiri h0 8 3 h0c h0n), (cAI g h0c 24 h0f)] [] [1, 0] [] (t_put l g h0 h0n 0 p0 8 3 h0c h0n 24 h0f (tbk_8_3)) dX8_add_k0.2.1.1.2 mw360 mw326 mw327 mw64 mw328 rfl 8 rfl rfl 0 _ rfl yk_yX8_put_3 rfl (Nat.le_of_ble_eq_true rfl) (Nat.le_of_ble_eq_true rfl) (Nat.le_of_ble_eq_true rfl) (Nat.le_of_ble_eq_true rfl) (Nat.le_of_ble_eq_true rfl) rfl rfl (vnd_e rfl) rfl (vnd_e rfl) (dsj_e rfl) ?_
    rintro w ⟨fa_5, hr_7, rfl⟩
    refine k_ws [(cO8_iiri h0 8 3 h0c h0n), (cAI g h0c 24 fa_5)] rfl ?_
    refine k_aload_n X dX8_add_k0.2.1.2.1 0 rfl ?_
    refine k_aload_n X dX8_add_k0.2.1.2.2 0 rfl ?_
    refine k_get (ci := 8) X inlX8 rfl 3 (nlt_e rfl) dX8_add_k0.2.2.1.1 mw100 0 rfl rfl ?_
    refine k_iconst (v := 1) X dX8_add_k0.2.2.1.2 ic_1 ?_
    refine k_iload_n X dX8_add_k0.2.2.2.1 2 rfl ?_
    refine k_callVV (n := 3) (As := [.int h0n, .int 1, .int p1]) (st := []) X [(cO8_iiri h0 8 3 h0c h0n), (cAI g h0c 24 fa_5)] [] [0, 1] [] (t_put l g h0 h0n 1 p1 8 3 h0c h0n 24 fa_5 (tbk_8_3)) dX8_add_k0.2.2.2.2 mw360 mw326 mw327 mw64 mw328 rfl 8 rfl rfl 0 _ rfl yk_yX8_put_3 rfl (Nat.le_of_ble_eq_true rfl) (Nat.le_of_ble_eq_true rfl) (Nat.le_of_ble_eq_true rfl) (Nat.le_of_ble_eq_true rfl) (Nat.le_of_ble_eq_true rfl) rfl rfl (vnd_e rfl) rfl (vnd_e rfl) (dsj_e rfl) ?_
    rintro w ⟨fa_8, hr_10, rfl⟩
    refine k_ws [(cO8_iiri h0 8 3 h0c h0n), (cAI g h0c 24 fa_8)] rfl ?_
    refine k_aload_n X dX8_add_k1.1.1.1 0 rfl ?_
    refine k_aload_n X dX8_add_k1.1.1.2.1 0 rfl ?_
    refine k_get (ci := 8) X inlX8 rfl 3 (nlt_e rfl) dX8_add_k1.1.1.2.2 mw100 0 rfl rfl ?_
    refine k_iconst (v := 2) X dX8_add_k1.1.2.1 ic_2 ?_
    refine k_iload_n X dX8_add_k1.1.2.2.1 3 rfl ?_
    refine k_callVV (n := 3) (As := [.int h0n, .int 2, .int p2]) (st := []) X [(cO8_iiri h0 8 3 h0c h0n), (cAI g h0c 24 fa_8)] [] [0, 1] [] (t_put l g h0 h0n 2 p2 8 3 h0c h0n 24 fa_8 (tbk_8_3)) dX8_add_k1.1.2.2.2 mw360 mw326 mw327 mw64 mw328 rfl 8 rfl rfl 0 _ rfl yk_yX8_put_3 rfl (Nat.le_of_ble_eq_true rfl) (Nat.le_of_ble_eq_true rfl) (Nat.le_of_ble_eq_true rfl) (Nat.le_of_ble_eq_true rfl) (Nat.le_of_ble_eq_true rfl) rfl rfl (vnd_e rfl) rfl (vnd_e rfl) (dsj_e rfl) ?_
    rintro w ⟨fa_11, hr_13, rfl⟩
    refine k_ws [(cO8_iiri h0 8 3 h0c h0n), (cAI g h0c 24 fa_11)] rfl ?_
    refine k_aload_n X dX8_add_k1.2.1.1 0 rfl ?_
    refine k_dup X dX8_add_k1.2.1.2.1 rfl ?_
    refine k_get (ci := 8) X inlX8 rfl 3 (nlt_e rfl) dX8_add_k1.2.1.2.2 mw100 0 rfl rfl ?_
    refine k_iconst (v := 1) X dX8_add_k1.2.2.1.1 ic_1 ?_
    refine k_iadd X dX8_add_k1.2.2.1.2 ?_
    refine k_nm (fun z_14 ez_14 => ?_)
    refine k_put (ci := 8) [(cO8_iiri h0 8 3 h0c z_14), (cAI g h0c 24 fa_11)] X inlX8 rfl tyX8_ok nmX8 3 (nlt_e rfl) rfl dX8_add_k1.2.2.2.1 mw100 0 rfl rfl rfl (Nat.le_of_ble_eq_true rfl) rfl ?_
    exact k_vret X hr dX8_add_k1.2.2.2.2 (Nat.le_of_ble_eq_true rfl) (Nat.le_of_ble_eq_true rfl) [0, 1] (vnd_e rfl) rfl rfl ⟨fa_11, z_14, ⟨r_1, hr_2, (Or.inl ⟨h_3, ⟨fa_5, hr_7, ⟨fa_8, hr_10, ⟨fa_11, hr_13, ⟨z_14, ez_14, ⟨rfl, rfl⟩⟩⟩⟩⟩⟩)⟩, rfl⟩
  · skip
    exact k_vret X hr dX8_add_k0.1.1.2.2 (Nat.le_of_ble_eq_true rfl) (Nat.le_of_ble_eq_true rfl) [1, 0] (vnd_e rfl) rfl rfl ⟨h0f, h0n, ⟨r_1, hr_2, (Or.inr ⟨h_3, ⟨rfl, rfl⟩⟩)⟩, rfl⟩


set_option maxHeartbeats 4000000 in
set_option maxRecDepth 100000 in
theorem t_add4_1X (l : Launch) (g : Gx) (h0 : Nat) (p0 : Int32) (p1 : Int32) (p2 : Int32) (h0c : Nat) (h0n : Int32) (h0f : Nat → Int32) : cV l g yX8_add cX8_add 4 1 23 0 0 [.ref h0, .int p0, .int p1, .int p2] [(cO8_iiri h0 4 1 h0c h0n), (cAI g h0c 4 h0f)] (fun w => ∃ (h0g : Nat → Int32) (h0k : Int32), (R_t_add4_1X p0 p1 p2 h0n h0f h0g h0k) ∧ w = [(cO8_iiri h0 4 1 h0c h0k), (cAI g h0c 4 h0g)]) := by
  refine cV.of (by decide) (Nat.le_of_ble_eq_true rfl) ?_
  intro p e s m args below meth c A X hr hi
  refine k_lveq [(0, .ref h0), (1, .int p0), (2, .int p1), (3, .int p2)] rfl ?_
  refine k_aload_n X dX8_add_k0.1.1.1.1 0 rfl ?_
  refine k_callVI (n := 0) (As := []) (st := []) X [(cO8_iiri h0 4 1 h0c h0n)] [(cAI g h0c 4 h0f)] [0] [1] (t_isFull l g h0 4 (.int 1) (.ref h0c) h0n) dX8_add_k0.1.1.1.2 mw359 mw344 mw345 mw64 mw346 rfl 8 rfl rfl 0 _ rfl yk_yX8_isFull_0 rfl (Nat.le_of_ble_eq_true rfl) (Nat.le_of_ble_eq_true rfl) (Nat.le_of_ble_eq_true rfl) (Nat.le_of_ble_eq_true rfl) (Nat.le_of_ble_eq_true rfl) rfl rfl (vnd_e rfl) rfl (vnd_e rfl) (dsj_e rfl) ?_
  rintro r_1 w ⟨hr_2, rfl⟩
  refine k_ws [(cAI g h0c 4 h0f), (cO8_iiri h0 4 1 h0c h0n)] rfl ?_
  refine k_if_eq 8 X dX8_add_k0.1.1.2.1 (jp_e rfl) (fun h_3 => ?_) (fun h_3 => ?_)
  · skip
    have iv_4 : IV r_1 0 0 := iv_meet (iv_any r_1) (iv_e h_3 iq_0_0_0) (zle_o rfl) (zle_o rfl)
    refine k_aload_n X dX8_add_k0.1.2.1.1 0 rfl ?_
    refine k_aload_n X dX8_add_k0.1.2.1.2 0 rfl ?_
    refine k_get (ci := 8) X inlX8 rfl 3 (nlt_e rfl) dX8_add_k0.1.2.2.1 mw100 1 rfl rfl ?_
    refine k_iconst (v := 0) X dX8_add_k0.1.2.2.2 ic_0 ?_
    refine k_iload_n X dX8_add_k0.2.1.1.1 1 rfl ?_
    refine k_callVV (n := 3) (As := [.int h0n, .int 0, .int p0]) (st := []) X [(cO8_iiri h0 4 1 h0c h0n), (cAI g h0c 4 h0f)] [] [1, 0] [] (t_put l g h0 h0n 0 p0 4 1 h0c h0n 4 h0f (tbk_4_1)) dX8_add_k0.2.1.1.2 mw360 mw326 mw327 mw64 mw328 rfl 8 rfl rfl 0 _ rfl yk_yX8_put_3 rfl (Nat.le_of_ble_eq_true rfl) (Nat.le_of_ble_eq_true rfl) (Nat.le_of_ble_eq_true rfl) (Nat.le_of_ble_eq_true rfl) (Nat.le_of_ble_eq_true rfl) rfl rfl (vnd_e rfl) rfl (vnd_e rfl) (dsj_e rfl) ?_
    rintro w ⟨fa_5, hr_7, rfl⟩
    refine k_ws [(cO8_iiri h0 4 1 h0c h0n), (cAI g h0c 4 fa_5)] rfl ?_
    refine k_aload_n X dX8_add_k0.2.1.2.1 0 rfl ?_
    refine k_aload_n X dX8_add_k0.2.1.2.2 0 rfl ?_
    refine k_get (ci := 8) X inlX8 rfl 3 (nlt_e rfl) dX8_add_k0.2.2.1.1 mw100 0 rfl rfl ?_
    refine k_iconst (v := 1) X dX8_add_k0.2.2.1.2 ic_1 ?_
    refine k_iload_n X dX8_add_k0.2.2.2.1 2 rfl ?_
    refine k_callVV (n := 3) (As := [.int h0n, .int 1, .int p1]) (st := []) X [(cO8_iiri h0 4 1 h0c h0n), (cAI g h0c 4 fa_5)] [] [0, 1] [] (t_put l g h0 h0n 1 p1 4 1 h0c h0n 4 fa_5 (tbk_4_1)) dX8_add_k0.2.2.2.2 mw360 mw326 mw327 mw64 mw328 rfl 8 rfl rfl 0 _ rfl yk_yX8_put_3 rfl (Nat.le_of_ble_eq_true rfl) (Nat.le_of_ble_eq_true rfl) (Nat.le_of_ble_eq_true rfl) (Nat.le_of_ble_eq_true rfl) (Nat.le_of_ble_eq_true rfl) rfl rfl (vnd_e rfl) rfl (vnd_e rfl) (dsj_e rfl) ?_
    rintro w ⟨fa_8, hr_10, rfl⟩
    refine k_ws [(cO8_iiri h0 4 1 h0c h0n), (cAI g h0c 4 fa_8)] rfl ?_
    refine k_aload_n X dX8_add_k1.1.1.1 0 rfl ?_
    refine k_aload_n X dX8_add_k1.1.1.2.1 0 rfl ?_
    refine k_get (ci := 8) X inlX8 rfl 3 (nlt_e rfl) dX8_add_k1.1.1.2.2 mw100 0 rfl rfl ?_
    refine k_iconst (v := 2) X dX8_add_k1.1.2.1 ic_2 ?_
    refine k_iload_n X dX8_add_k1.1.2.2.1 3 rfl ?_
    refine k_callVV (n := 3) (As := [.int h0n, .int 2, .int p2]) (st := []) X [(cO8_iiri h0 4 1 h0c h0n), (cAI g h0c 4 fa_8)] [] [0, 1] [] (t_put l g h0 h0n 2 p2 4 1 h0c h0n 4 fa_8 (tbk_4_1)) dX8_add_k1.1.2.2.2 mw360 mw326 mw327 mw64 mw328 rfl 8 rfl rfl 0 _ rfl yk_yX8_put_3 rfl (Nat.le_of_ble_eq_true rfl) (Nat.le_of_ble_eq_true rfl) (Nat.le_of_ble_eq_true rfl) (Nat.le_of_ble_eq_true rfl) (Nat.le_of_ble_eq_true rfl) rfl rfl (vnd_e rfl) rfl (vnd_e rfl) (dsj_e rfl) ?_
    rintro w ⟨fa_11, hr_13, rfl⟩
    refine k_ws [(cO8_iiri h0 4 1 h0c h0n), (cAI g h0c 4 fa_11)] rfl ?_
    refine k_aload_n X dX8_add_k1.2.1.1 0 rfl ?_
    refine k_dup X dX8_add_k1.2.1.2.1 rfl ?_
    refine k_get (ci := 8) X inlX8 rfl 3 (nlt_e rfl) dX8_add_k1.2.1.2.2 mw100 0 rfl rfl ?_
    refine k_iconst (v := 1) X dX8_add_k1.2.2.1.1 ic_1 ?_
    refine k_iadd X dX8_add_k1.2.2.1.2 ?_
    refine k_nm (fun z_14 ez_14 => ?_)
    refine k_put (ci := 8) [(cO8_iiri h0 4 1 h0c z_14), (cAI g h0c 4 fa_11)] X inlX8 rfl tyX8_ok nmX8 3 (nlt_e rfl) rfl dX8_add_k1.2.2.2.1 mw100 0 rfl rfl rfl (Nat.le_of_ble_eq_true rfl) rfl ?_
    exact k_vret X hr dX8_add_k1.2.2.2.2 (Nat.le_of_ble_eq_true rfl) (Nat.le_of_ble_eq_true rfl) [0, 1] (vnd_e rfl) rfl rfl ⟨fa_11, z_14, ⟨r_1, hr_2, (Or.inl ⟨h_3, ⟨fa_5, hr_7, ⟨fa_8, hr_10, ⟨fa_11, hr_13, ⟨z_14, ez_14, ⟨rfl, rfl⟩⟩⟩⟩⟩⟩)⟩, rfl⟩
  · skip
    exact k_vret X hr dX8_add_k0.1.1.2.2 (Nat.le_of_ble_eq_true rfl) (Nat.le_of_ble_eq_true rfl) [1, 0] (vnd_e rfl) rfl rfl ⟨h0f, h0n, ⟨r_1, hr_2, (Or.inr ⟨h_3, ⟨rfl, rfl⟩⟩)⟩, rfl⟩


set_option maxHeartbeats 4000000 in
set_option maxRecDepth 100000 in
theorem t_add12_3X (l : Launch) (g : Gx) (h0 : Nat) (p0 : Int32) (p1 : Int32) (p2 : Int32) (h0c : Nat) (h0n : Int32) (h0f : Nat → Int32) : cV l g yX8_add cX8_add 4 1 23 0 0 [.ref h0, .int p0, .int p1, .int p2] [(cO8_iiri h0 12 3 h0c h0n), (cAI g h0c 36 h0f)] (fun w => ∃ (h0g : Nat → Int32) (h0k : Int32), (R_t_add12_3X p0 p1 p2 h0n h0f h0g h0k) ∧ w = [(cO8_iiri h0 12 3 h0c h0k), (cAI g h0c 36 h0g)]) := by
  refine cV.of (by decide) (Nat.le_of_ble_eq_true rfl) ?_
  intro p e s m args below meth c A X hr hi
  refine k_lveq [(0, .ref h0), (1, .int p0), (2, .int p1), (3, .int p2)] rfl ?_
  refine k_aload_n X dX8_add_k0.1.1.1.1 0 rfl ?_
  refine k_callVI (n := 0) (As := []) (st := []) X [(cO8_iiri h0 12 3 h0c h0n)] [(cAI g h0c 36 h0f)] [0] [1] (t_isFull l g h0 12 (.int 3) (.ref h0c) h0n) dX8_add_k0.1.1.1.2 mw359 mw344 mw345 mw64 mw346 rfl 8 rfl rfl 0 _ rfl yk_yX8_isFull_0 rfl (Nat.le_of_ble_eq_true rfl) (Nat.le_of_ble_eq_true rfl) (Nat.le_of_ble_eq_true rfl) (Nat.le_of_ble_eq_true rfl) (Nat.le_of_ble_eq_true rfl) rfl rfl (vnd_e rfl) rfl (vnd_e rfl) (dsj_e rfl) ?_
  rintro r_1 w ⟨hr_2, rfl⟩
  refine k_ws [(cAI g h0c 36 h0f), (cO8_iiri h0 12 3 h0c h0n)] rfl ?_
  refine k_if_eq 8 X dX8_add_k0.1.1.2.1 (jp_e rfl) (fun h_3 => ?_) (fun h_3 => ?_)
  · skip
    have iv_4 : IV r_1 0 0 := iv_meet (iv_any r_1) (iv_e h_3 iq_0_0_0) (zle_o rfl) (zle_o rfl)
    refine k_aload_n X dX8_add_k0.1.2.1.1 0 rfl ?_
    refine k_aload_n X dX8_add_k0.1.2.1.2 0 rfl ?_
    refine k_get (ci := 8) X inlX8 rfl 3 (nlt_e rfl) dX8_add_k0.1.2.2.1 mw100 1 rfl rfl ?_
    refine k_iconst (v := 0) X dX8_add_k0.1.2.2.2 ic_0 ?_
    refine k_iload_n X dX8_add_k0.2.1.1.1 1 rfl ?_
    refine k_callVV (n := 3) (As := [.int h0n, .int 0, .int p0]) (st := []) X [(cO8_iiri h0 12 3 h0c h0n), (cAI g h0c 36 h0f)] [] [1, 0] [] (t_put l g h0 h0n 0 p0 12 3 h0c h0n 36 h0f (tbk_12_3)) dX8_add_k0.2.1.1.2 mw360 mw326 mw327 mw64 mw328 rfl 8 rfl rfl 0 _ rfl yk_yX8_put_3 rfl (Nat.le_of_ble_eq_true rfl) (Nat.le_of_ble_eq_true rfl) (Nat.le_of_ble_eq_true rfl) (Nat.le_of_ble_eq_true rfl) (Nat.le_of_ble_eq_true rfl) rfl rfl (vnd_e rfl) rfl (vnd_e rfl) (dsj_e rfl) ?_
    rintro w ⟨fa_5, hr_7, rfl⟩
    refine k_ws [(cO8_iiri h0 12 3 h0c h0n), (cAI g h0c 36 fa_5)] rfl ?_
    refine k_aload_n X dX8_add_k0.2.1.2.1 0 rfl ?_
    refine k_aload_n X dX8_add_k0.2.1.2.2 0 rfl ?_
    refine k_get (ci := 8) X inlX8 rfl 3 (nlt_e rfl) dX8_add_k0.2.2.1.1 mw100 0 rfl rfl ?_
    refine k_iconst (v := 1) X dX8_add_k0.2.2.1.2 ic_1 ?_
    refine k_iload_n X dX8_add_k0.2.2.2.1 2 rfl ?_
    refine k_callVV (n := 3) (As := [.int h0n, .int 1, .int p1]) (st := []) X [(cO8_iiri h0 12 3 h0c h0n), (cAI g h0c 36 fa_5)] [] [0, 1] [] (t_put l g h0 h0n 1 p1 12 3 h0c h0n 36 fa_5 (tbk_12_3)) dX8_add_k0.2.2.2.2 mw360 mw326 mw327 mw64 mw328 rfl 8 rfl rfl 0 _ rfl yk_yX8_put_3 rfl (Nat.le_of_ble_eq_true rfl) (Nat.le_of_ble_eq_true rfl) (Nat.le_of_ble_eq_true rfl) (Nat.le_of_ble_eq_true rfl) (Nat.le_of_ble_eq_true rfl) rfl rfl (vnd_e rfl) rfl (vnd_e rfl) (dsj_e rfl) ?_
    rintro w ⟨fa_8, hr_10, rfl⟩
    refine k_ws [(cO8_iiri h0 12 3 h0c h0n), (cAI g h0c 36 fa_8)] rfl ?_
    refine k_aload_n X dX8_add_k1.1.1.1 0 rfl ?_
    refine k_aload_n X dX8_add_k1.1.1.2.1 0 rfl ?_
    refine k_get (ci := 8) X inlX8 rfl 3 (nlt_e rfl) dX8_add_k1.1.1.2.2 mw100 0 rfl rfl ?_
    refine k_iconst (v := 2) X dX8_add_k1.1.2.1 ic_2 ?_
    refine k_iload_n X dX8_add_k1.1.2.2.1 3 rfl ?_
    refine k_callVV (n := 3) (As := [.int h0n, .int 2, .int p2]) (st := []) X [(cO8_iiri h0 12 3 h0c h0n), (cAI g h0c 36 fa_8)] [] [0, 1] [] (t_put l g h0 h0n 2 p2 12 3 h0c h0n 36 fa_8 (tbk_12_3)) dX8_add_k1.1.2.2.2 mw360 mw326 mw327 mw64 mw328 rfl 8 rfl rfl 0 _ rfl yk_yX8_put_3 rfl (Nat.le_of_ble_eq_true rfl) (Nat.le_of_ble_eq_true rfl) (Nat.le_of_ble_eq_true rfl) (Nat.le_of_ble_eq_true rfl) (Nat.le_of_ble_eq_true rfl) rfl rfl (vnd_e rfl) rfl (vnd_e rfl) (dsj_e rfl) ?_
    rintro w ⟨fa_11, hr_13, rfl⟩
    refine k_ws [(cO8_iiri h0 12 3 h0c h0n), (cAI g h0c 36 fa_11)] rfl ?_
    refine k_aload_n X dX8_add_k1.2.1.1 0 rfl ?_
    refine k_dup X dX8_add_k1.2.1.2.1 rfl ?_
    refine k_get (ci := 8) X inlX8 rfl 3 (nlt_e rfl) dX8_add_k1.2.1.2.2 mw100 0 rfl rfl ?_
    refine k_iconst (v := 1) X dX8_add_k1.2.2.1.1 ic_1 ?_
    refine k_iadd X dX8_add_k1.2.2.1.2 ?_
    refine k_nm (fun z_14 ez_14 => ?_)
    refine k_put (ci := 8) [(cO8_iiri h0 12 3 h0c z_14), (cAI g h0c 36 fa_11)] X inlX8 rfl tyX8_ok nmX8 3 (nlt_e rfl) rfl dX8_add_k1.2.2.2.1 mw100 0 rfl rfl rfl (Nat.le_of_ble_eq_true rfl) rfl ?_
    exact k_vret X hr dX8_add_k1.2.2.2.2 (Nat.le_of_ble_eq_true rfl) (Nat.le_of_ble_eq_true rfl) [0, 1] (vnd_e rfl) rfl rfl ⟨fa_11, z_14, ⟨r_1, hr_2, (Or.inl ⟨h_3, ⟨fa_5, hr_7, ⟨fa_8, hr_10, ⟨fa_11, hr_13, ⟨z_14, ez_14, ⟨rfl, rfl⟩⟩⟩⟩⟩⟩)⟩, rfl⟩
  · skip
    exact k_vret X hr dX8_add_k0.1.1.2.2 (Nat.le_of_ble_eq_true rfl) (Nat.le_of_ble_eq_true rfl) [1, 0] (vnd_e rfl) rfl rfl ⟨h0f, h0n, ⟨r_1, hr_2, (Or.inr ⟨h_3, ⟨rfl, rfl⟩⟩)⟩, rfl⟩


set_option maxHeartbeats 4000000 in
set_option maxRecDepth 100000 in
theorem t_add8_2X (l : Launch) (g : Gx) (h0 : Nat) (p0 : Int32) (p1 : Int32) (p2 : Int32) (h0c : Nat) (h0n : Int32) (h0f : Nat → Int32) : cV l g yX8_add cX8_add 4 1 23 0 0 [.ref h0, .int p0, .int p1, .int p2] [(cO8_iiri h0 8 2 h0c h0n), (cAI g h0c 16 h0f)] (fun w => ∃ (h0g : Nat → Int32) (h0k : Int32), (R_t_add8_2X p0 p1 p2 h0n h0f h0g h0k) ∧ w = [(cO8_iiri h0 8 2 h0c h0k), (cAI g h0c 16 h0g)]) := by
  refine cV.of (by decide) (Nat.le_of_ble_eq_true rfl) ?_
  intro p e s m args below meth c A X hr hi
  refine k_lveq [(0, .ref h0), (1, .int p0), (2, .int p1), (3, .int p2)] rfl ?_
  refine k_aload_n X dX8_add_k0.1.1.1.1 0 rfl ?_
  refine k_callVI (n := 0) (As := []) (st := []) X [(cO8_iiri h0 8 2 h0c h0n)] [(cAI g h0c 16 h0f)] [0] [1] (t_isFull l g h0 8 (.int 2) (.ref h0c) h0n) dX8_add_k0.1.1.1.2 mw359 mw344 mw345 mw64 mw346 rfl 8 rfl rfl 0 _ rfl yk_yX8_isFull_0 rfl (Nat.le_of_ble_eq_true rfl) (Nat.le_of_ble_eq_true rfl) (Nat.le_of_ble_eq_true rfl) (Nat.le_of_ble_eq_true rfl) (Nat.le_of_ble_eq_true rfl) rfl rfl (vnd_e rfl) rfl (vnd_e rfl) (dsj_e rfl) ?_
  rintro r_1 w ⟨hr_2, rfl⟩
  refine k_ws [(cAI g h0c 16 h0f), (cO8_iiri h0 8 2 h0c h0n)] rfl ?_
  refine k_if_eq 8 X dX8_add_k0.1.1.2.1 (jp_e rfl) (fun h_3 => ?_) (fun h_3 => ?_)
  · skip
    have iv_4 : IV r_1 0 0 := iv_meet (iv_any r_1) (iv_e h_3 iq_0_0_0) (zle_o rfl) (zle_o rfl)
    refine k_aload_n X dX8_add_k0.1.2.1.1 0 rfl ?_
    refine k_aload_n X dX8_add_k0.1.2.1.2 0 rfl ?_
    refine k_get (ci := 8) X inlX8 rfl 3 (nlt_e rfl) dX8_add_k0.1.2.2.1 mw100 1 rfl rfl ?_
    refine k_iconst (v := 0) X dX8_add_k0.1.2.2.2 ic_0 ?_
    refine k_iload_n X dX8_add_k0.2.1.1.1 1 rfl ?_
    refine k_callVV (n := 3) (As := [.int h0n, .int 0, .int p0]) (st := []) X [(cO8_iiri h0 8 2 h0c h0n), (cAI g h0c 16 h0f)] [] [1, 0] [] (t_put l g h0 h0n 0 p0 8 2 h0c h0n 16 h0f (tbk_8_2)) dX8_add_k0.2.1.1.2 mw360 mw326 mw327 mw64 mw328 rfl 8 rfl rfl 0 _ rfl yk_yX8_put_3 rfl (Nat.le_of_ble_eq_true rfl) (Nat.le_of_ble_eq_true rfl) (Nat.le_of_ble_eq_true rfl) (Nat.le_of_ble_eq_true rfl) (Nat.le_of_ble_eq_true rfl) rfl rfl (vnd_e rfl) rfl (vnd_e rfl) (dsj_e rfl) ?_
    rintro w ⟨fa_5, hr_7, rfl⟩
    refine k_ws [(cO8_iiri h0 8 2 h0c h0n), (cAI g h0c 16 fa_5)] rfl ?_
    refine k_aload_n X dX8_add_k0.2.1.2.1 0 rfl ?_
    refine k_aload_n X dX8_add_k0.2.1.2.2 0 rfl ?_
    refine k_get (ci := 8) X inlX8 rfl 3 (nlt_e rfl) dX8_add_k0.2.2.1.1 mw100 0 rfl rfl ?_
    refine k_iconst (v := 1) X dX8_add_k0.2.2.1.2 ic_1 ?_
    refine k_iload_n X dX8_add_k0.2.2.2.1 2 rfl ?_
    refine k_callVV (n := 3) (As := [.int h0n, .int 1, .int p1]) (st := []) X [(cO8_iiri h0 8 2 h0c h0n), (cAI g h0c 16 fa_5)] [] [0, 1] [] (t_put l g h0 h0n 1 p1 8 2 h0c h0n 16 fa_5 (tbk_8_2)) dX8_add_k0.2.2.2.2 mw360 mw326 mw327 mw64 mw328 rfl 8 rfl rfl 0 _ rfl yk_yX8_put_3 rfl (Nat.le_of_ble_eq_true rfl) (Nat.le_of_ble_eq_true rfl) (Nat.le_of_ble_eq_true rfl) (Nat.le_of_ble_eq_true rfl) (Nat.le_of_ble_eq_true rfl) rfl rfl (vnd_e rfl) rfl (vnd_e rfl) (dsj_e rfl) ?_
    rintro w ⟨fa_8, hr_10, rfl⟩
    refine k_ws [(cO8_iiri h0 8 2 h0c h0n), (cAI g h0c 16 fa_8)] rfl ?_
    refine k_aload_n X dX8_add_k1.1.1.1 0 rfl ?_
    refine k_aload_n X dX8_add_k1.1.1.2.1 0 rfl ?_
    refine k_get (ci := 8) X inlX8 rfl 3 (nlt_e rfl) dX8_add_k1.1.1.2.2 mw100 0 rfl rfl ?_
    refine k_iconst (v := 2) X dX8_add_k1.1.2.1 ic_2 ?_
    refine k_iload_n X dX8_add_k1.1.2.2.1 3 rfl ?_
    refine k_callVV (n := 3) (As := [.int h0n, .int 2, .int p2]) (st := []) X [(cO8_iiri h0 8 2 h0c h0n), (cAI g h0c 16 fa_8)] [] [0, 1] [] (t_put l g h0 h0n 2 p2 8 2 h0c h0n 16 fa_8 (tbk_8_2)) dX8_add_k1.1.2.2.2 mw360 mw326 mw327 mw64 mw328 rfl 8 rfl rfl 0 _ rfl yk_yX8_put_3 rfl (Nat.le_of_ble_eq_true rfl) (Nat.le_of_ble_eq_true rfl) (Nat.le_of_ble_eq_true rfl) (Nat.le_of_ble_eq_true rfl) (Nat.le_of_ble_eq_true rfl) rfl rfl (vnd_e rfl) rfl (vnd_e rfl) (dsj_e rfl) ?_
    rintro w ⟨fa_11, hr_13, rfl⟩
    refine k_ws [(cO8_iiri h0 8 2 h0c h0n), (cAI g h0c 16 fa_11)] rfl ?_
    refine k_aload_n X dX8_add_k1.2.1.1 0 rfl ?_
    refine k_dup X dX8_add_k1.2.1.2.1 rfl ?_
    refine k_get (ci := 8) X inlX8 rfl 3 (nlt_e rfl) dX8_add_k1.2.1.2.2 mw100 0 rfl rfl ?_
    refine k_iconst (v := 1) X dX8_add_k1.2.2.1.1 ic_1 ?_
    refine k_iadd X dX8_add_k1.2.2.1.2 ?_
    refine k_nm (fun z_14 ez_14 => ?_)
    refine k_put (ci := 8) [(cO8_iiri h0 8 2 h0c z_14), (cAI g h0c 16 fa_11)] X inlX8 rfl tyX8_ok nmX8 3 (nlt_e rfl) rfl dX8_add_k1.2.2.2.1 mw100 0 rfl rfl rfl (Nat.le_of_ble_eq_true rfl) rfl ?_
    exact k_vret X hr dX8_add_k1.2.2.2.2 (Nat.le_of_ble_eq_true rfl) (Nat.le_of_ble_eq_true rfl) [0, 1] (vnd_e rfl) rfl rfl ⟨fa_11, z_14, ⟨r_1, hr_2, (Or.inl ⟨h_3, ⟨fa_5, hr_7, ⟨fa_8, hr_10, ⟨fa_11, hr_13, ⟨z_14, ez_14, ⟨rfl, rfl⟩⟩⟩⟩⟩⟩)⟩, rfl⟩
  · skip
    exact k_vret X hr dX8_add_k0.1.1.2.2 (Nat.le_of_ble_eq_true rfl) (Nat.le_of_ble_eq_true rfl) [1, 0] (vnd_e rfl) rfl rfl ⟨h0f, h0n, ⟨r_1, hr_2, (Or.inr ⟨h_3, ⟨rfl, rfl⟩⟩)⟩, rfl⟩


set_option maxHeartbeats 4000000 in
set_option maxRecDepth 100000 in
theorem t_add6_3X (l : Launch) (g : Gx) (h0 : Nat) (p0 : Int32) (p1 : Int32) (p2 : Int32) (h0c : Nat) (h0n : Int32) (h0f : Nat → Int32) : cV l g yX8_add cX8_add 4 1 23 0 0 [.ref h0, .int p0, .int p1, .int p2] [(cO8_iiri h0 6 3 h0c h0n), (cAI g h0c 18 h0f)] (fun w => ∃ (h0g : Nat → Int32) (h0k : Int32), (R_t_add6_3X p0 p1 p2 h0n h0f h0g h0k) ∧ w = [(cO8_iiri h0 6 3 h0c h0k), (cAI g h0c 18 h0g)]) := by
  refine cV.of (by decide) (Nat.le_of_ble_eq_true rfl) ?_
  intro p e s m args below meth c A X hr hi
  refine k_lveq [(0, .ref h0), (1, .int p0), (2, .int p1), (3, .int p2)] rfl ?_
  refine k_aload_n X dX8_add_k0.1.1.1.1 0 rfl ?_
  refine k_callVI (n := 0) (As := []) (st := []) X [(cO8_iiri h0 6 3 h0c h0n)] [(cAI g h0c 18 h0f)] [0] [1] (t_isFull l g h0 6 (.int 3) (.ref h0c) h0n) dX8_add_k0.1.1.1.2 mw359 mw344 mw345 mw64 mw346 rfl 8 rfl rfl 0 _ rfl yk_yX8_isFull_0 rfl (Nat.le_of_ble_eq_true rfl) (Nat.le_of_ble_eq_true rfl) (Nat.le_of_ble_eq_true rfl) (Nat.le_of_ble_eq_true rfl) (Nat.le_of_ble_eq_true rfl) rfl rfl (vnd_e rfl) rfl (vnd_e rfl) (dsj_e rfl) ?_
  rintro r_1 w ⟨hr_2, rfl⟩
  refine k_ws [(cAI g h0c 18 h0f), (cO8_iiri h0 6 3 h0c h0n)] rfl ?_
  refine k_if_eq 8 X dX8_add_k0.1.1.2.1 (jp_e rfl) (fun h_3 => ?_) (fun h_3 => ?_)
  · skip
    have iv_4 : IV r_1 0 0 := iv_meet (iv_any r_1) (iv_e h_3 iq_0_0_0) (zle_o rfl) (zle_o rfl)
    refine k_aload_n X dX8_add_k0.1.2.1.1 0 rfl ?_
    refine k_aload_n X dX8_add_k0.1.2.1.2 0 rfl ?_
    refine k_get (ci := 8) X inlX8 rfl 3 (nlt_e rfl) dX8_add_k0.1.2.2.1 mw100 1 rfl rfl ?_
    refine k_iconst (v := 0) X dX8_add_k0.1.2.2.2 ic_0 ?_
    refine k_iload_n X dX8_add_k0.2.1.1.1 1 rfl ?_
    refine k_callVV (n := 3) (As := [.int h0n, .int 0, .int p0]) (st := []) X [(cO8_iiri h0 6 3 h0c h0n), (cAI g h0c 18 h0f)] [] [1, 0] [] (t_put l g h0 h0n 0 p0 6 3 h0c h0n 18 h0f (tbk_6_3)) dX8_add_k0.2.1.1.2 mw360 mw326 mw327 mw64 mw328 rfl 8 rfl rfl 0 _ rfl yk_yX8_put_3 rfl (Nat.le_of_ble_eq_true rfl) (Nat.le_of_ble_eq_true rfl) (Nat.le_of_ble_eq_true rfl) (Nat.le_of_ble_eq_true rfl) (Nat.le_of_ble_eq_true rfl) rfl rfl (vnd_e rfl) rfl (vnd_e rfl) (dsj_e rfl) ?_
    rintro w ⟨fa_5, hr_7, rfl⟩
    refine k_ws [(cO8_iiri h0 6 3 h0c h0n), (cAI g h0c 18 fa_5)] rfl ?_
    refine k_aload_n X dX8_add_k0.2.1.2.1 0 rfl ?_
    refine k_aload_n X dX8_add_k0.2.1.2.2 0 rfl ?_
    refine k_get (ci := 8) X inlX8 rfl 3 (nlt_e rfl) dX8_add_k0.2.2.1.1 mw100 0 rfl rfl ?_
    refine k_iconst (v := 1) X dX8_add_k0.2.2.1.2 ic_1 ?_
    refine k_iload_n X dX8_add_k0.2.2.2.1 2 rfl ?_
    refine k_callVV (n := 3) (As := [.int h0n, .int 1, .int p1]) (st := []) X [(cO8_iiri h0 6 3 h0c h0n), (cAI g h0c 18 fa_5)] [] [0, 1] [] (t_put l g h0 h0n 1 p1 6 3 h0c h0n 18 fa_5 (tbk_6_3)) dX8_add_k0.2.2.2.2 mw360 mw326 mw327 mw64 mw328 rfl 8 rfl rfl 0 _ rfl yk_yX8_put_3 rfl (Nat.le_of_ble_eq_true rfl) (Nat.le_of_ble_eq_true rfl) (Nat.le_of_ble_eq_true rfl) (Nat.le_of_ble_eq_true rfl) (Nat.le_of_ble_eq_true rfl) rfl rfl (vnd_e rfl) rfl (vnd_e rfl) (dsj_e rfl) ?_
    rintro w ⟨fa_8, hr_10, rfl⟩
    refine k_ws [(cO8_iiri h0 6 3 h0c h0n), (cAI g h0c 18 fa_8)] rfl ?_
    refine k_aload_n X dX8_add_k1.1.1.1 0 rfl ?_
    refine k_aload_n X dX8_add_k1.1.1.2.1 0 rfl ?_
    refine k_get (ci := 8) X inlX8 rfl 3 (nlt_e rfl) dX8_add_k1.1.1.2.2 mw100 0 rfl rfl ?_
    refine k_iconst (v := 2) X dX8_add_k1.1.2.1 ic_2 ?_
    refine k_iload_n X dX8_add_k1.1.2.2.1 3 rfl ?_
    refine k_callVV (n := 3) (As := [.int h0n, .int 2, .int p2]) (st := []) X [(cO8_iiri h0 6 3 h0c h0n), (cAI g h0c 18 fa_8)] [] [0, 1] [] (t_put l g h0 h0n 2 p2 6 3 h0c h0n 18 fa_8 (tbk_6_3)) dX8_add_k1.1.2.2.2 mw360 mw326 mw327 mw64 mw328 rfl 8 rfl rfl 0 _ rfl yk_yX8_put_3 rfl (Nat.le_of_ble_eq_true rfl) (Nat.le_of_ble_eq_true rfl) (Nat.le_of_ble_eq_true rfl) (Nat.le_of_ble_eq_true rfl) (Nat.le_of_ble_eq_true rfl) rfl rfl (vnd_e rfl) rfl (vnd_e rfl) (dsj_e rfl) ?_
    rintro w ⟨fa_11, hr_13, rfl⟩
    refine k_ws [(cO8_iiri h0 6 3 h0c h0n), (cAI g h0c 18 fa_11)] rfl ?_
    refine k_aload_n X dX8_add_k1.2.1.1 0 rfl ?_
    refine k_dup X dX8_add_k1.2.1.2.1 rfl ?_
    refine k_get (ci := 8) X inlX8 rfl 3 (nlt_e rfl) dX8_add_k1.2.1.2.2 mw100 0 rfl rfl ?_
    refine k_iconst (v := 1) X dX8_add_k1.2.2.1.1 ic_1 ?_
    refine k_iadd X dX8_add_k1.2.2.1.2 ?_
    refine k_nm (fun z_14 ez_14 => ?_)
    refine k_put (ci := 8) [(cO8_iiri h0 6 3 h0c z_14), (cAI g h0c 18 fa_11)] X inlX8 rfl tyX8_ok nmX8 3 (nlt_e rfl) rfl dX8_add_k1.2.2.2.1 mw100 0 rfl rfl rfl (Nat.le_of_ble_eq_true rfl) rfl ?_
    exact k_vret X hr dX8_add_k1.2.2.2.2 (Nat.le_of_ble_eq_true rfl) (Nat.le_of_ble_eq_true rfl) [0, 1] (vnd_e rfl) rfl rfl ⟨fa_11, z_14, ⟨r_1, hr_2, (Or.inl ⟨h_3, ⟨fa_5, hr_7, ⟨fa_8, hr_10, ⟨fa_11, hr_13, ⟨z_14, ez_14, ⟨rfl, rfl⟩⟩⟩⟩⟩⟩)⟩, rfl⟩
  · skip
    exact k_vret X hr dX8_add_k0.1.1.2.2 (Nat.le_of_ble_eq_true rfl) (Nat.le_of_ble_eq_true rfl) [1, 0] (vnd_e rfl) rfl rfl ⟨h0f, h0n, ⟨r_1, hr_2, (Or.inr ⟨h_3, ⟨rfl, rfl⟩⟩)⟩, rfl⟩


set_option maxHeartbeats 4000000 in
set_option maxRecDepth 100000 in
theorem t_add4_3X (l : Launch) (g : Gx) (h0 : Nat) (p0 : Int32) (p1 : Int32) (p2 : Int32) (h0c : Nat) (h0n : Int32) (h0f : Nat → Int32) : cV l g yX8_add cX8_add 4 1 23 0 0 [.ref h0, .int p0, .int p1, .int p2] [(cO8_iiri h0 4 3 h0c h0n), (cAI g h0c 12 h0f)] (fun w => ∃ (h0g : Nat → Int32) (h0k : Int32), (R_t_add4_3X p0 p1 p2 h0n h0f h0g h0k) ∧ w = [(cO8_iiri h0 4 3 h0c h0k), (cAI g h0c 12 h0g)]) := by
  refine cV.of (by decide) (Nat.le_of_ble_eq_true rfl) ?_
  intro p e s m args below meth c A X hr hi
  refine k_lveq [(0, .ref h0), (1, .int p0), (2, .int p1), (3, .int p2)] rfl ?_
  refine k_aload_n X dX8_add_k0.1.1.1.1 0 rfl ?_
  refine k_callVI (n := 0) (As := []) (st := []) X [(cO8_iiri h0 4 3 h0c h0n)] [(cAI g h0c 12 h0f)] [0] [1] (t_isFull l g h0 4 (.int 3) (.ref h0c) h0n) dX8_add_k0.1.1.1.2 mw359 mw344 mw345 mw64 mw346 rfl 8 rfl rfl 0 _ rfl yk_yX8_isFull_0 rfl (Nat.le_of_ble_eq_true rfl) (Nat.le_of_ble_eq_true rfl) (Nat.le_of_ble_eq_true rfl) (Nat.le_of_ble_eq_true rfl) (Nat.le_of_ble_eq_true rfl) rfl rfl (vnd_e rfl) rfl (vnd_e rfl) (dsj_e rfl) ?_
  rintro r_1 w ⟨hr_2, rfl⟩
  refine k_ws [(cAI g h0c 12 h0f), (cO8_iiri h0 4 3 h0c h0n)] rfl ?_
  refine k_if_eq 8 X dX8_add_k0.1.1.2.1 (jp_e rfl) (fun h_3 => ?_) (fun h_3 => ?_)
  · skip
    have iv_4 : IV r_1 0 0 := iv_meet (iv_any r_1) (iv_e h_3 iq_0_0_0) (zle_o rfl) (zle_o rfl)
    refine k_aload_n X dX8_add_k0.1.2.1.1 0 rfl ?_
    refine k_aload_n X dX8_add_k0.1.2.1.2 0 rfl ?_
    refine k_get (ci := 8) X inlX8 rfl 3 (nlt_e rfl) dX8_add_k0.1.2.2.1 mw100 1 rfl rfl ?_
    refine k_iconst (v := 0) X dX8_add_k0.1.2.2.2 ic_0 ?_
    refine k_iload_n X dX8_add_k0.2.1.1.1 1 rfl ?_
    refine k_callVV (n := 3) (As := [.int h0n, .int 0, .int p0]) (st := []) X [(cO8_iiri h0 4 3 h0c h0n), (cAI g h0c 12 h0f)] [] [1, 0] [] (t_put l g h0 h0n 0 p0 4 3 h0c h0n 12 h0f (tbk_4_3)) dX8_add_k0.2.1.1.2 mw360 mw326 mw327 mw64 mw328 rfl 8 rfl rfl 0 _ rfl yk_yX8_put_3 rfl (Nat.le_of_ble_eq_true rfl) (Nat.le_of_ble_eq_true rfl) (Nat.le_of_ble_eq_true rfl) (Nat.le_of_ble_eq_true rfl) (Nat.le_of_ble_eq_true rfl) rfl rfl (vnd_e rfl) rfl (vnd_e rfl) (dsj_e rfl) ?_
    rintro w ⟨fa_5, hr_7, rfl⟩
    refine k_ws [(cO8_iiri h0 4 3 h0c h0n), (cAI g h0c 12 fa_5)] rfl ?_
    refine k_aload_n X dX8_add_k0.2.1.2.1 0 rfl ?_
    refine k_aload_n X dX8_add_k0.2.1.2.2 0 rfl ?_
    refine k_get (ci := 8) X inlX8 rfl 3 (nlt_e rfl) dX8_add_k0.2.2.1.1 mw100 0 rfl rfl ?_
    refine k_iconst (v := 1) X dX8_add_k0.2.2.1.2 ic_1 ?_
    refine k_iload_n X dX8_add_k0.2.2.2.1 2 rfl ?_
    refine k_callVV (n := 3) (As := [.int h0n, .int 1, .int p1]) (st := []) X [(cO8_iiri h0 4 3 h0c h0n), (cAI g h0c 12 fa_5)] [] [0, 1] [] (t_put l g h0 h0n 1 p1 4 3 h0c h0n 12 fa_5 (tbk_4_3)) dX8_add_k0.2.2.2.2 mw360 mw326 mw327 mw64 mw328 rfl 8 rfl rfl 0 _ rfl yk_yX8_put_3 rfl (Nat.le_of_ble_eq_true rfl) (Nat.le_of_ble_eq_true rfl) (Nat.le_of_ble_eq_true rfl) (Nat.le_of_ble_eq_true rfl) (Nat.le_of_ble_eq_true rfl) rfl rfl (vnd_e rfl) rfl (vnd_e rfl) (dsj_e rfl) ?_
    rintro w ⟨fa_8, hr_10, rfl⟩
    refine k_ws [(cO8_iiri h0 4 3 h0c h0n), (cAI g h0c 12 fa_8)] rfl ?_
    refine k_aload_n X dX8_add_k1.1.1.1 0 rfl ?_
    refine k_aload_n X dX8_add_k1.1.1.2.1 0 rfl ?_
    refine k_get (ci := 8) X inlX8 rfl 3 (nlt_e rfl) dX8_add_k1.1.1.2.2 mw100 0 rfl rfl ?_
    refine k_iconst (v := 2) X dX8_add_k1.1.2.1 ic_2 ?_
    refine k_iload_n X dX8_add_k1.1.2.2.1 3 rfl ?_
    refine k_callVV (n := 3) (As := [.int h0n, .int 2, .int p2]) (st := []) X [(cO8_iiri h0 4 3 h0c h0n), (cAI g h0c 12 fa_8)] [] [0, 1] [] (t_put l g h0 h0n 2 p2 4 3 h0c h0n 12 fa_8 (tbk_4_3)) dX8_add_k1.1.2.2.2 mw360 mw326 mw327 mw64 mw328 rfl 8 rfl rfl 0 _ rfl yk_yX8_put_3 rfl (Nat.le_of_ble_eq_true rfl) (Nat.le_of_ble_eq_true rfl) (Nat.le_of_ble_eq_true rfl) (Nat.le_of_ble_eq_true rfl) (Nat.le_of_ble_eq_true rfl) rfl rfl (vnd_e rfl) rfl (vnd_e rfl) (dsj_e rfl) ?_
    rintro w ⟨fa_11, hr_13, rfl⟩
    refine k_ws [(cO8_iiri h0 4 3 h0c h0n), (cAI g h0c 12 fa_11)] rfl ?_
    refine k_aload_n X dX8_add_k1.2.1.1 0 rfl ?_
    refine k_dup X dX8_add_k1.2.1.2.1 rfl ?_
    refine k_get (ci := 8) X inlX8 rfl 3 (nlt_e rfl) dX8_add_k1.2.1.2.2 mw100 0 rfl rfl ?_
    refine k_iconst (v := 1) X dX8_add_k1.2.2.1.1 ic_1 ?_
    refine k_iadd X dX8_add_k1.2.2.1.2 ?_
    refine k_nm (fun z_14 ez_14 => ?_)
    refine k_put (ci := 8) [(cO8_iiri h0 4 3 h0c z_14), (cAI g h0c 12 fa_11)] X inlX8 rfl tyX8_ok nmX8 3 (nlt_e rfl) rfl dX8_add_k1.2.2.2.1 mw100 0 rfl rfl rfl (Nat.le_of_ble_eq_true rfl) rfl ?_
    exact k_vret X hr dX8_add_k1.2.2.2.2 (Nat.le_of_ble_eq_true rfl) (Nat.le_of_ble_eq_true rfl) [0, 1] (vnd_e rfl) rfl rfl ⟨fa_11, z_14, ⟨r_1, hr_2, (Or.inl ⟨h_3, ⟨fa_5, hr_7, ⟨fa_8, hr_10, ⟨fa_11, hr_13, ⟨z_14, ez_14, ⟨rfl, rfl⟩⟩⟩⟩⟩⟩)⟩, rfl⟩
  · skip
    exact k_vret X hr dX8_add_k0.1.1.2.2 (Nat.le_of_ble_eq_true rfl) (Nat.le_of_ble_eq_true rfl) [1, 0] (vnd_e rfl) rfl rfl ⟨h0f, h0n, ⟨r_1, hr_2, (Or.inr ⟨h_3, ⟨rfl, rfl⟩⟩)⟩, rfl⟩


set_option maxHeartbeats 4000000 in
set_option maxRecDepth 100000 in
theorem t_add6_2X (l : Launch) (g : Gx) (h0 : Nat) (p0 : Int32) (p1 : Int32) (p2 : Int32) (h0c : Nat) (h0n : Int32) (h0f : Nat → Int32) : cV l g yX8_add cX8_add 4 1 23 0 0 [.ref h0, .int p0, .int p1, .int p2] [(cO8_iiri h0 6 2 h0c h0n), (cAI g h0c 12 h0f)] (fun w => ∃ (h0g : Nat → Int32) (h0k : Int32), (R_t_add6_2X p0 p1 p2 h0n h0f h0g h0k) ∧ w = [(cO8_iiri h0 6 2 h0c h0k), (cAI g h0c 12 h0g)]) := by
  refine cV.of (by decide) (Nat.le_of_ble_eq_true rfl) ?_
  intro p e s m args below meth c A X hr hi
  refine k_lveq [(0, .ref h0), (1, .int p0), (2, .int p1), (3, .int p2)] rfl ?_
  refine k_aload_n X dX8_add_k0.1.1.1.1 0 rfl ?_
  refine k_callVI (n := 0) (As := []) (st := []) X [(cO8_iiri h0 6 2 h0c h0n)] [(cAI g h0c 12 h0f)] [0] [1] (t_isFull l g h0 6 (.int 2) (.ref h0c) h0n) dX8_add_k0.1.1.1.2 mw359 mw344 mw345 mw64 mw346 rfl 8 rfl rfl 0 _ rfl yk_yX8_isFull_0 rfl (Nat.le_of_ble_eq_true rfl) (Nat.le_of_ble_eq_true rfl) (Nat.le_of_ble_eq_true rfl) (Nat.le_of_ble_eq_true rfl) (Nat.le_of_ble_eq_true rfl) rfl rfl (vnd_e rfl) rfl (vnd_e rfl) (dsj_e rfl) ?_
  rintro r_1 w ⟨hr_2, rfl⟩
  refine k_ws [(cAI g h0c 12 h0f), (cO8_iiri h0 6 2 h0c h0n)] rfl ?_
  refine k_if_eq 8 X dX8_add_k0.1.1.2.1 (jp_e rfl) (fun h_3 => ?_) (fun h_3 => ?_)
  · skip
    have iv_4 : IV r_1 0 0 := iv_meet (iv_any r_1) (iv_e h_3 iq_0_0_0) (zle_o rfl) (zle_o rfl)
    refine k_aload_n X dX8_add_k0.1.2.1.1 0 rfl ?_
    refine k_aload_n X dX8_add_k0.1.2.1.2 0 rfl ?_
    refine k_get (ci := 8) X inlX8 rfl 3 (nlt_e rfl) dX8_add_k0.1.2.2.1 mw100 1 rfl rfl ?_
    refine k_iconst (v := 0) X dX8_add_k0.1.2.2.2 ic_0 ?_
    refine k_iload_n X dX8_add_k0.2.1.1.1 1 rfl ?_
    refine k_callVV (n := 3) (As := [.int h0n, .int 0, .int p0]) (st := []) X [(cO8_iiri h0 6 2 h0c h0n), (cAI g h0c 12 h0f)] [] [1, 0] [] (t_put l g h0 h0n 0 p0 6 2 h0c h0n 12 h0f (tbk_6_2)) dX8_add_k0.2.1.1.2 mw360 mw326 mw327 mw64 mw328 rfl 8 rfl rfl 0 _ rfl yk_yX8_put_3 rfl (Nat.le_of_ble_eq_true rfl) (Nat.le_of_ble_eq_true rfl) (Nat.le_of_ble_eq_true rfl) (Nat.le_of_ble_eq_true rfl) (Nat.le_of_ble_eq_true rfl) rfl rfl (vnd_e rfl) rfl (vnd_e rfl) (dsj_e rfl) ?_
    rintro w ⟨fa_5, hr_7, rfl⟩
    refine k_ws [(cO8_iiri h0 6 2 h0c h0n), (cAI g h0c 12 fa_5)] rfl ?_
    refine k_aload_n X dX8_add_k0.2.1.2.1 0 rfl ?_
    refine k_aload_n X dX8_add_k0.2.1.2.2 0 rfl ?_
    refine k_get (ci := 8) X inlX8 rfl 3 (nlt_e rfl) dX8_add_k0.2.2.1.1 mw100 0 rfl rfl ?_
    refine k_iconst (v := 1) X dX8_add_k0.2.2.1.2 ic_1 ?_
    refine k_iload_n X dX8_add_k0.2.2.2.1 2 rfl ?_
    refine k_callVV (n := 3) (As := [.int h0n, .int 1, .int p1]) (st := []) X [(cO8_iiri h0 6 2 h0c h0n), (cAI g h0c 12 fa_5)] [] [0, 1] [] (t_put l g h0 h0n 1 p1 6 2 h0c h0n 12 fa_5 (tbk_6_2)) dX8_add_k0.2.2.2.2 mw360 mw326 mw327 mw64 mw328 rfl 8 rfl rfl 0 _ rfl yk_yX8_put_3 rfl (Nat.le_of_ble_eq_true rfl) (Nat.le_of_ble_eq_true rfl) (Nat.le_of_ble_eq_true rfl) (Nat.le_of_ble_eq_true rfl) (Nat.le_of_ble_eq_true rfl) rfl rfl (vnd_e rfl) rfl (vnd_e rfl) (dsj_e rfl) ?_
    rintro w ⟨fa_8, hr_10, rfl⟩
    refine k_ws [(cO8_iiri h0 6 2 h0c h0n), (cAI g h0c 12 fa_8)] rfl ?_
    refine k_aload_n X dX8_add_k1.1.1.1 0 rfl ?_
    refine k_aload_n X dX8_add_k1.1.1.2.1 0 rfl ?_
    refine k_get (ci := 8) X inlX8 rfl 3 (nlt_e rfl) dX8_add_k1.1.1.2.2 mw100 0 rfl rfl ?_
    refine k_iconst (v := 2) X dX8_add_k1.1.2.1 ic_2 ?_
    refine k_iload_n X dX8_add_k1.1.2.2.1 3 rfl ?_
    refine k_callVV (n := 3) (As := [.int h0n, .int 2, .int p2]) (st := []) X [(cO8_iiri h0 6 2 h0c h0n), (cAI g h0c 12 fa_8)] [] [0, 1] [] (t_put l g h0 h0n 2 p2 6 2 h0c h0n 12 fa_8 (tbk_6_2)) dX8_add_k1.1.2.2.2 mw360 mw326 mw327 mw64 mw328 rfl 8 rfl rfl 0 _ rfl yk_yX8_put_3 rfl (Nat.le_of_ble_eq_true rfl) (Nat.le_of_ble_eq_true rfl) (Nat.le_of_ble_eq_true rfl) (Nat.le_of_ble_eq_true rfl) (Nat.le_of_ble_eq_true rfl) rfl rfl (vnd_e rfl) rfl (vnd_e rfl) (dsj_e rfl) ?_
    rintro w ⟨fa_11, hr_13, rfl⟩
    refine k_ws [(cO8_iiri h0 6 2 h0c h0n), (cAI g h0c 12 fa_11)] rfl ?_
    refine k_aload_n X dX8_add_k1.2.1.1 0 rfl ?_
    refine k_dup X dX8_add_k1.2.1.2.1 rfl ?_
    refine k_get (ci := 8) X inlX8 rfl 3 (nlt_e rfl) dX8_add_k1.2.1.2.2 mw100 0 rfl rfl ?_
    refine k_iconst (v := 1) X dX8_add_k1.2.2.1.1 ic_1 ?_
    refine k_iadd X dX8_add_k1.2.2.1.2 ?_
    refine k_nm (fun z_14 ez_14 => ?_)
    refine k_put (ci := 8) [(cO8_iiri h0 6 2 h0c z_14), (cAI g h0c 12 fa_11)] X inlX8 rfl tyX8_ok nmX8 3 (nlt_e rfl) rfl dX8_add_k1.2.2.2.1 mw100 0 rfl rfl rfl (Nat.le_of_ble_eq_true rfl) rfl ?_
    exact k_vret X hr dX8_add_k1.2.2.2.2 (Nat.le_of_ble_eq_true rfl) (Nat.le_of_ble_eq_true rfl) [0, 1] (vnd_e rfl) rfl rfl ⟨fa_11, z_14, ⟨r_1, hr_2, (Or.inl ⟨h_3, ⟨fa_5, hr_7, ⟨fa_8, hr_10, ⟨fa_11, hr_13, ⟨z_14, ez_14, ⟨rfl, rfl⟩⟩⟩⟩⟩⟩)⟩, rfl⟩
  · skip
    exact k_vret X hr dX8_add_k0.1.1.2.2 (Nat.le_of_ble_eq_true rfl) (Nat.le_of_ble_eq_true rfl) [1, 0] (vnd_e rfl) rfl rfl ⟨h0f, h0n, ⟨r_1, hr_2, (Or.inr ⟨h_3, ⟨rfl, rfl⟩⟩)⟩, rfl⟩


set_option maxHeartbeats 4000000 in
set_option maxRecDepth 100000 in
theorem t_add1_3X (l : Launch) (g : Gx) (h0 : Nat) (p0 : Int32) (p1 : Int32) (p2 : Int32) (h0c : Nat) (h0n : Int32) (h0f : Nat → Int32) : cV l g yX8_add cX8_add 4 1 23 0 0 [.ref h0, .int p0, .int p1, .int p2] [(cO8_iiri h0 1 3 h0c h0n), (cAI g h0c 3 h0f)] (fun w => ∃ (h0g : Nat → Int32) (h0k : Int32), (R_t_add1_3X p0 p1 p2 h0n h0f h0g h0k) ∧ w = [(cO8_iiri h0 1 3 h0c h0k), (cAI g h0c 3 h0g)]) := by
  refine cV.of (by decide) (Nat.le_of_ble_eq_true rfl) ?_
  intro p e s m args below meth c A X hr hi
  refine k_lveq [(0, .ref h0), (1, .int p0), (2, .int p1), (3, .int p2)] rfl ?_
  refine k_aload_n X dX8_add_k0.1.1.1.1 0 rfl ?_
  refine k_callVI (n := 0) (As := []) (st := []) X [(cO8_iiri h0 1 3 h0c h0n)] [(cAI g h0c 3 h0f)] [0] [1] (t_isFull l g h0 1 (.int 3) (.ref h0c) h0n) dX8_add_k0.1.1.1.2 mw359 mw344 mw345 mw64 mw346 rfl 8 rfl rfl 0 _ rfl yk_yX8_isFull_0 rfl (Nat.le_of_ble_eq_true rfl) (Nat.le_of_ble_eq_true rfl) (Nat.le_of_ble_eq_true rfl) (Nat.le_of_ble_eq_true rfl) (Nat.le_of_ble_eq_true rfl) rfl rfl (vnd_e rfl) rfl (vnd_e rfl) (dsj_e rfl) ?_
  rintro r_1 w ⟨hr_2, rfl⟩
  refine k_ws [(cAI g h0c 3 h0f), (cO8_iiri h0 1 3 h0c h0n)] rfl ?_
  refine k_if_eq 8 X dX8_add_k0.1.1.2.1 (jp_e rfl) (fun h_3 => ?_) (fun h_3 => ?_)
  · skip
    have iv_4 : IV r_1 0 0 := iv_meet (iv_any r_1) (iv_e h_3 iq_0_0_0) (zle_o rfl) (zle_o rfl)
    refine k_aload_n X dX8_add_k0.1.2.1.1 0 rfl ?_
    refine k_aload_n X dX8_add_k0.1.2.1.2 0 rfl ?_
    refine k_get (ci := 8) X inlX8 rfl 3 (nlt_e rfl) dX8_add_k0.1.2.2.1 mw100 1 rfl rfl ?_
    refine k_iconst (v := 0) X dX8_add_k0.1.2.2.2 ic_0 ?_
    refine k_iload_n X dX8_add_k0.2.1.1.1 1 rfl ?_
    refine k_callVV (n := 3) (As := [.int h0n, .int 0, .int p0]) (st := []) X [(cO8_iiri h0 1 3 h0c h0n), (cAI g h0c 3 h0f)] [] [1, 0] [] (t_put l g h0 h0n 0 p0 1 3 h0c h0n 3 h0f (tbk_1_3)) dX8_add_k0.2.1.1.2 mw360 mw326 mw327 mw64 mw328 rfl 8 rfl rfl 0 _ rfl yk_yX8_put_3 rfl (Nat.le_of_ble_eq_true rfl) (Nat.le_of_ble_eq_true rfl) (Nat.le_of_ble_eq_true rfl) (Nat.le_of_ble_eq_true rfl) (Nat.le_of_ble_eq_true rfl) rfl rfl (vnd_e rfl) rfl (vnd_e rfl) (dsj_e rfl) ?_
    rintro w ⟨fa_5, hr_7, rfl⟩
    refine k_ws [(cO8_iiri h0 1 3 h0c h0n), (cAI g h0c 3 fa_5)] rfl ?_
    refine k_aload_n X dX8_add_k0.2.1.2.1 0 rfl ?_
    refine k_aload_n X dX8_add_k0.2.1.2.2 0 rfl ?_
    refine k_get (ci := 8) X inlX8 rfl 3 (nlt_e rfl) dX8_add_k0.2.2.1.1 mw100 0 rfl rfl ?_
    refine k_iconst (v := 1) X dX8_add_k0.2.2.1.2 ic_1 ?_
    refine k_iload_n X dX8_add_k0.2.2.2.1 2 rfl ?_
    refine k_callVV (n := 3) (As := [.int h0n, .int 1, .int p1]) (st := []) X [(cO8_iiri h0 1 3 h0c h0n), (cAI g h0c 3 fa_5)] [] [0, 1] [] (t_put l g h0 h0n 1 p1 1 3 h0c h0n 3 fa_5 (tbk_1_3)) dX8_add_k0.2.2.2.2 mw360 mw326 mw327 mw64 mw328 rfl 8 rfl rfl 0 _ rfl yk_yX8_put_3 rfl (Nat.le_of_ble_eq_true rfl) (Nat.le_of_ble_eq_true rfl) (Nat.le_of_ble_eq_true rfl) (Nat.le_of_ble_eq_true rfl) (Nat.le_of_ble_eq_true rfl) rfl rfl (vnd_e rfl) rfl (vnd_e rfl) (dsj_e rfl) ?_
    rintro w ⟨fa_8, hr_10, rfl⟩
    refine k_ws [(cO8_iiri h0 1 3 h0c h0n), (cAI g h0c 3 fa_8)] rfl ?_
    refine k_aload_n X dX8_add_k1.1.1.1 0 rfl ?_
    refine k_aload_n X dX8_add_k1.1.1.2.1 0 rfl ?_
    refine k_get (ci := 8) X inlX8 rfl 3 (nlt_e rfl) dX8_add_k1.1.1.2.2 mw100 0 rfl rfl ?_
    refine k_iconst (v := 2) X dX8_add_k1.1.2.1 ic_2 ?_
    refine k_iload_n X dX8_add_k1.1.2.2.1 3 rfl ?_
    refine k_callVV (n := 3) (As := [.int h0n, .int 2, .int p2]) (st := []) X [(cO8_iiri h0 1 3 h0c h0n), (cAI g h0c 3 fa_8)] [] [0, 1] [] (t_put l g h0 h0n 2 p2 1 3 h0c h0n 3 fa_8 (tbk_1_3)) dX8_add_k1.1.2.2.2 mw360 mw326 mw327 mw64 mw328 rfl 8 rfl rfl 0 _ rfl yk_yX8_put_3 rfl (Nat.le_of_ble_eq_true rfl) (Nat.le_of_ble_eq_true rfl) (Nat.le_of_ble_eq_true rfl) (Nat.le_of_ble_eq_true rfl) (Nat.le_of_ble_eq_true rfl) rfl rfl (vnd_e rfl) rfl (vnd_e rfl) (dsj_e rfl) ?_
    rintro w ⟨fa_11, hr_13, rfl⟩
    refine k_ws [(cO8_iiri h0 1 3 h0c h0n), (cAI g h0c 3 fa_11)] rfl ?_
    refine k_aload_n X dX8_add_k1.2.1.1 0 rfl ?_
    refine k_dup X dX8_add_k1.2.1.2.1 rfl ?_
    refine k_get (ci := 8) X inlX8 rfl 3 (nlt_e rfl) dX8_add_k1.2.1.2.2 mw100 0 rfl rfl ?_
    refine k_iconst (v := 1) X dX8_add_k1.2.2.1.1 ic_1 ?_
    refine k_iadd X dX8_add_k1.2.2.1.2 ?_
    refine k_nm (fun z_14 ez_14 => ?_)
    refine k_put (ci := 8) [(cO8_iiri h0 1 3 h0c z_14), (cAI g h0c 3 fa_11)] X inlX8 rfl tyX8_ok nmX8 3 (nlt_e rfl) rfl dX8_add_k1.2.2.2.1 mw100 0 rfl rfl rfl (Nat.le_of_ble_eq_true rfl) rfl ?_
    exact k_vret X hr dX8_add_k1.2.2.2.2 (Nat.le_of_ble_eq_true rfl) (Nat.le_of_ble_eq_true rfl) [0, 1] (vnd_e rfl) rfl rfl ⟨fa_11, z_14, ⟨r_1, hr_2, (Or.inl ⟨h_3, ⟨fa_5, hr_7, ⟨fa_8, hr_10, ⟨fa_11, hr_13, ⟨z_14, ez_14, ⟨rfl, rfl⟩⟩⟩⟩⟩⟩)⟩, rfl⟩
  · skip
    exact k_vret X hr dX8_add_k0.1.1.2.2 (Nat.le_of_ble_eq_true rfl) (Nat.le_of_ble_eq_true rfl) [1, 0] (vnd_e rfl) rfl rfl ⟨h0f, h0n, ⟨r_1, hr_2, (Or.inr ⟨h_3, ⟨rfl, rfl⟩⟩)⟩, rfl⟩


set_option maxHeartbeats 4000000 in
set_option maxRecDepth 100000 in
theorem t_add16_2X (l : Launch) (g : Gx) (h0 : Nat) (p0 : Int32) (p1 : Int32) (p2 : Int32) (h0c : Nat) (h0n : Int32) (h0f : Nat → Int32) : cV l g yX8_add cX8_add 4 1 23 0 0 [.ref h0, .int p0, .int p1, .int p2] [(cO8_iiri h0 16 2 h0c h0n), (cAI g h0c 32 h0f)] (fun w => ∃ (h0g : Nat → Int32) (h0k : Int32), (R_t_add16_2X p0 p1 p2 h0n h0f h0g h0k) ∧ w = [(cO8_iiri h0 16 2 h0c h0k), (cAI g h0c 32 h0g)]) := by
  refine cV.of (by decide) (Nat.le_of_ble_eq_true rfl) ?_
  intro p e s m args below meth c A X hr hi
  refine k_lveq [(0, .ref h0), (1, .int p0), (2, .int p1), (3, .int p2)] rfl ?_
  refine k_aload_n X dX8_add_k0.1.1.1.1 0 rfl ?_
  refine k_callVI (n := 0) (As := []) (st := []) X [(cO8_iiri h0 16 2 h0c h0n)] [(cAI g h0c 32 h0f)] [0] [1] (t_isFull l g h0 16 (.int 2) (.ref h0c) h0n) dX8_add_k0.1.1.1.2 mw359 mw344 mw345 mw64 mw346 rfl 8 rfl rfl 0 _ rfl yk_yX8_isFull_0 rfl (Nat.le_of_ble_eq_true rfl) (Nat.le_of_ble_eq_true rfl) (Nat.le_of_ble_eq_true rfl) (Nat.le_of_ble_eq_true rfl) (Nat.le_of_ble_eq_true rfl) rfl rfl (vnd_e rfl) rfl (vnd_e rfl) (dsj_e rfl) ?_
  rintro r_1 w ⟨hr_2, rfl⟩
  refine k_ws [(cAI g h0c 32 h0f), (cO8_iiri h0 16 2 h0c h0n)] rfl ?_
  refine k_if_eq 8 X dX8_add_k0.1.1.2.1 (jp_e rfl) (fun h_3 => ?_) (fun h_3 => ?_)
  · skip
    have iv_4 : IV r_1 0 0 := iv_meet (iv_any r_1) (iv_e h_3 iq_0_0_0) (zle_o rfl) (zle_o rfl)
    refine k_aload_n X dX8_add_k0.1.2.1.1 0 rfl ?_
    refine k_aload_n X dX8_add_k0.1.2.1.2 0 rfl ?_
    refine k_get (ci := 8) X inlX8 rfl 3 (nlt_e rfl) dX8_add_k0.1.2.2.1 mw100 1 rfl rfl ?_
    refine k_iconst (v := 0) X dX8_add_k0.1.2.2.2 ic_0 ?_
    refine k_iload_n X dX8_add_k0.2.1.1.1 1 rfl ?_
    refine k_callVV (n := 3) (As := [.int h0n, .int 0, .int p0]) (st := []) X [(cO8_iiri h0 16 2 h0c h0n), (cAI g h0c 32 h0f)] [] [1, 0] [] (t_put l g h0 h0n 0 p0 16 2 h0c h0n 32 h0f (tbk_16_2)) dX8_add_k0.2.1.1.2 mw360 mw326 mw327 mw64 mw328 rfl 8 rfl rfl 0 _ rfl yk_yX8_put_3 rfl (Nat.le_of_ble_eq_true rfl) (Nat.le_of_ble_eq_true rfl) (Nat.le_of_ble_eq_true rfl) (Nat.le_of_ble_eq_true rfl) (Nat.le_of_ble_eq_true rfl) rfl rfl (vnd_e rfl) rfl (vnd_e rfl) (dsj_e rfl) ?_
    rintro w ⟨fa_5, hr_7, rfl⟩
    refine k_ws [(cO8_iiri h0 16 2 h0c h0n), (cAI g h0c 32 fa_5)] rfl ?_
    refine k_aload_n X dX8_add_k0.2.1.2.1 0 rfl ?_
    refine k_aload_n X dX8_add_k0.2.1.2.2 0 rfl ?_
    refine k_get (ci := 8) X inlX8 rfl 3 (nlt_e rfl) dX8_add_k0.2.2.1.1 mw100 0 rfl rfl ?_
    refine k_iconst (v := 1) X dX8_add_k0.2.2.1.2 ic_1 ?_
    refine k_iload_n X dX8_add_k0.2.2.2.1 2 rfl ?_
    refine k_callVV (n := 3) (As := [.int h0n, .int 1, .int p1]) (st := []) X [(cO8_iiri h0 16 2 h0c h0n), (cAI g h0c 32 fa_5)] [] [0, 1] [] (t_put l g h0 h0n 1 p1 16 2 h0c h0n 32 fa_5 (tbk_16_2)) dX8_add_k0.2.2.2.2 mw360 mw326 mw327 mw64 mw328 rfl 8 rfl rfl 0 _ rfl yk_yX8_put_3 rfl (Nat.le_of_ble_eq_true rfl) (Nat.le_of_ble_eq_true rfl) (Nat.le_of_ble_eq_true rfl) (Nat.le_of_ble_eq_true rfl) (Nat.le_of_ble_eq_true rfl) rfl rfl (vnd_e rfl) rfl (vnd_e rfl) (dsj_e rfl) ?_
    rintro w ⟨fa_8, hr_10, rfl⟩
    refine k_ws [(cO8_iiri h0 16 2 h0c h0n), (cAI g h0c 32 fa_8)] rfl ?_
    refine k_aload_n X dX8_add_k1.1.1.1 0 rfl ?_
    refine k_aload_n X dX8_add_k1.1.1.2.1 0 rfl ?_
    refine k_get (ci := 8) X inlX8 rfl 3 (nlt_e rfl) dX8_add_k1.1.1.2.2 mw100 0 rfl rfl ?_
    refine k_iconst (v := 2) X dX8_add_k1.1.2.1 ic_2 ?_
    refine k_iload_n X dX8_add_k1.1.2.2.1 3 rfl ?_
    refine k_callVV (n := 3) (As := [.int h0n, .int 2, .int p2]) (st := []) X [(cO8_iiri h0 16 2 h0c h0n), (cAI g h0c 32 fa_8)] [] [0, 1] [] (t_put l g h0 h0n 2 p2 16 2 h0c h0n 32 fa_8 (tbk_16_2)) dX8_add_k1.1.2.2.2 mw360 mw326 mw327 mw64 mw328 rfl 8 rfl rfl 0 _ rfl yk_yX8_put_3 rfl (Nat.le_of_ble_eq_true rfl) (Nat.le_of_ble_eq_true rfl) (Nat.le_of_ble_eq_true rfl) (Nat.le_of_ble_eq_true rfl) (Nat.le_of_ble_eq_true rfl) rfl rfl (vnd_e rfl) rfl (vnd_e rfl) (dsj_e rfl) ?_
    rintro w ⟨fa_11, hr_13, rfl⟩
    refine k_ws [(cO8_iiri h0 16 2 h0c h0n), (cAI g h0c 32 fa_11)] rfl ?_
    refine k_aload_n X dX8_add_k1.2.1.1 0 rfl ?_
    refine k_dup X dX8_add_k1.2.1.2.1 rfl ?_
    refine k_get (ci := 8) X inlX8 rfl 3 (nlt_e rfl) dX8_add_k1.2.1.2.2 mw100 0 rfl rfl ?_
    refine k_iconst (v := 1) X dX8_add_k1.2.2.1.1 ic_1 ?_
    refine k_iadd X dX8_add_k1.2.2.1.2 ?_
    refine k_nm (fun z_14 ez_14 => ?_)
    refine k_put (ci := 8) [(cO8_iiri h0 16 2 h0c z_14), (cAI g h0c 32 fa_11)] X inlX8 rfl tyX8_ok nmX8 3 (nlt_e rfl) rfl dX8_add_k1.2.2.2.1 mw100 0 rfl rfl rfl (Nat.le_of_ble_eq_true rfl) rfl ?_
    exact k_vret X hr dX8_add_k1.2.2.2.2 (Nat.le_of_ble_eq_true rfl) (Nat.le_of_ble_eq_true rfl) [0, 1] (vnd_e rfl) rfl rfl ⟨fa_11, z_14, ⟨r_1, hr_2, (Or.inl ⟨h_3, ⟨fa_5, hr_7, ⟨fa_8, hr_10, ⟨fa_11, hr_13, ⟨z_14, ez_14, ⟨rfl, rfl⟩⟩⟩⟩⟩⟩)⟩, rfl⟩
  · skip
    exact k_vret X hr dX8_add_k0.1.1.2.2 (Nat.le_of_ble_eq_true rfl) (Nat.le_of_ble_eq_true rfl) [1, 0] (vnd_e rfl) rfl rfl ⟨h0f, h0n, ⟨r_1, hr_2, (Or.inr ⟨h_3, ⟨rfl, rfl⟩⟩)⟩, rfl⟩


set_option maxHeartbeats 4000000 in
set_option maxRecDepth 100000 in
theorem s_markByX (l : Launch) (g : Gx) (h0 : Nat) (p0 : Int32) (p1 : Int32) (v0h0 : Value) (xm : Nat) (v2h0 : Value) (v3h0 : Value) (xmd : Int32) (xtr : Int32) (xmc : Nat) (xmn : Int32) (xmf : Nat → Int32) : cI l g yX7_markBy cX7_markBy 4 (some .int) 1 22 0 0 [.ref h0, .int p0, .int p1] [(cO7_vrvvii h0 v0h0 xm v2h0 v3h0 xmd xtr), (cO8_iiri xm 12 3 xmc xmn), (cAI g xmc 36 xmf)] (fun r w => (R_s_markByX p0 p1 xmn xmf r) ∧ w = [(cO7_vrvvii h0 v0h0 xm v2h0 v3h0 xmd xtr), (cO8_iiri xm 12 3 xmc xmn), (cAI g xmc 36 xmf)]) := by
  refine cI.of (by decide) (Nat.le_of_ble_eq_true rfl) ?_
  intro p e s m args below meth c A X hr hi
  refine k_lveq [(0, .ref h0), (1, .int p0), (2, .int p1)] rfl ?_
  refine k_iconst (v := 0) X dX7_markBy_k0.1.1.1.1 ic_0 ?_
  refine k_istore_n [(3, .int 0), (0, .ref h0), (1, .int p0), (2, .int p1)] X dX7_markBy_k0.1.1.1.2 (nlt_e rfl) rfl ?_
  refine (fun hL : ∀ (nn_3 : Nat) (u_1 : Int32), (xmn.toInt - u_1.toInt).toNat = nn_3 → (IV u_1 0 2147483647) → (∀ (r : Int32), (∃ n_0 : Nat, R_s_markByX_L0 p0 p1 xmn xmf r (r = (-2)) n_0 u_1) → R_s_markByX p0 p1 xmn xmf r) → Wk p l e _ s m args below meth c _ A g _ _ _ [(cO7_vrvvii h0 v0h0 xm v2h0 v3h0 xmd xtr), (cO8_iiri xm 12 3 xmc xmn), (cAI g xmc 36 xmf)] [(3, .int u_1), (0, .ref h0), (1, .int p0), (2, .int p1)] 2 [] => hL _ 0 rfl (iv_w iq_0_0_0 (zle_e rfl) (zle_e rfl)) (fun r h => h)) ?_
  refine fun nn_3 => Nat.strongRecOn nn_3 (fun nn_3 ih_5 => ?_)
  intro u_1 hm_4 hv_2 KH_0
  refine k_iload_n X dX7_markBy_k0.1.1.2.1 0 rfl ?_
  refine k_aload_n X dX7_markBy_k0.1.1.2.2 1 rfl ?_
  refine k_get (ci := 7) X inlX7 rfl 1 (nlt_e rfl) dX7_markBy_k0.1.2.1.1 mw91 0 rfl rfl ?_
  refine k_get (ci := 8) X inlX8 rfl 3 (nlt_e rfl) dX7_markBy_k0.1.2.1.2 mw387 1 rfl rfl ?_
  refine k_ic_ge 55 X dX7_markBy_k0.1.2.2.1 (jp_e rfl) (fun h_6 => ?_) (fun h_6 => ?_)
  · skip
    have j_7 : xmn.toInt ≤ u_1.toInt := iv_le h_6
    refine k_bipush (v := -2) X dX7_markBy_k1.2.2.2.1 bi_m2 ?_
    exact k_iret X hr dX7_markBy_k1.2.2.2.2 (Nat.le_of_ble_eq_true rfl) (Nat.le_of_ble_eq_true rfl) [0, 1, 2] (vnd_e rfl) rfl rfl ⟨(KH_0 _ ⟨0 + 1, (Or.inl ⟨h_6, rfl⟩)⟩), rfl⟩
  · skip
    have j_8 : u_1.toInt < xmn.toInt := iv_nle h_6
    have iv_9 : IV u_1 0 2147483646 := iv_ltL (iv_nle h_6) hv_2 (iv_any xmn) (zle_e rfl)
    have iv_10 : IV xmn 1 2147483647 := iv_ltR (iv_nle h_6) hv_2 (iv_any xmn) (zle_e rfl)
    refine k_aload_n X dX7_markBy_k0.1.2.2.2 1 rfl ?_
    refine k_get (ci := 7) X inlX7 rfl 1 (nlt_e rfl) dX7_markBy_k0.2.1.1.1 mw91 0 rfl rfl ?_
    refine k_iload_n X dX7_markBy_k0.2.1.1.2 0 rfl ?_
    refine k_iconst (v := 0) X dX7_markBy_k0.2.1.2.1 ic_0 ?_
    refine k_callVI (n := 2) (As := [.int u_1, .int 0]) (st := []) X [(cO8_iiri xm 12 3 xmc xmn), (cAI g xmc 36 xmf)] [(cO7_vrvvii h0 v0h0 xm v2h0 v3h0 xmd xtr)] [1, 2] [0] (t_at l g xm u_1 0 12 3 xmc xmn 36 xmf (tbk_12_3)) dX7_markBy_k0.2.1.2.2 mw388 mw376 mw377 mw64 mw378 rfl 8 rfl rfl 0 _ rfl yk_yX8_at_2 rfl (Nat.le_of_ble_eq_true rfl) (Nat.le_of_ble_eq_true rfl) (Nat.le_of_ble_eq_true rfl) (Nat.le_of_ble_eq_true rfl) (Nat.le_of_ble_eq_true rfl) rfl rfl (vnd_e rfl) rfl (vnd_e rfl) (dsj_e rfl) ?_
    rintro r_11 w ⟨hr_12, rfl⟩
    refine k_ws [(cO7_vrvvii h0 v0h0 xm v2h0 v3h0 xmd xtr), (cO8_iiri xm 12 3 xmc xmn), (cAI g xmc 36 xmf)] rfl ?_
    refine k_iload_n X dX7_markBy_k0.2.2.1.1 2 rfl ?_
    refine k_ic_ne 49 X dX7_markBy_k0.2.2.1.2 (jp_e rfl) (fun h_13 => ?_) (fun h_13 => ?_)
    · skip
      obtain ⟨z_14, ez_14⟩ : ∃ y : Int32, u_1 + Int32.ofInt 1 = y := ⟨_, rfl⟩
      refine k_iinc z_14 [(3, .int z_14), (0, .ref h0), (1, .int p0), (2, .int p1)] 0 X dX7_markBy_k1.2.2.1.1 rfl ez_14 (nlt_e rfl) rfl ?_
      have i_15 : z_14.toInt = u_1.toInt + 1 := in_inc ez_14 (oin_e rfl) iv_9 (zle_e rfl) (zle_e rfl)
      have iv_16 : IV z_14 1 2147483647 := iz1 i_15 iv_9 (zle_e rfl) (zle_e rfl)
      refine k_goto 2 X dX7_markBy_k1.2.2.1.2 (jp_e rfl) ?_
      exact ih_5 _ (by omega) z_14 rfl (iv_w iv_16 (zle_e rfl) (zle_e rfl)) (fun r h => h.elim (fun n_0 q => (KH_0 _ ⟨n_0 + 1, (Or.inr ⟨h_6, ⟨r_11, hr_12, (Or.inl ⟨h_13, ⟨z_14, ez_14, q⟩⟩)⟩⟩)⟩)))
    · skip
      refine k_aload_n X dX7_markBy_k0.2.2.2.1 1 rfl ?_
      refine k_get (ci := 7) X inlX7 rfl 1 (nlt_e rfl) dX7_markBy_k0.2.2.2.2 mw91 0 rfl rfl ?_
      refine k_iload_n X dX7_markBy_k1.1.1.1 0 rfl ?_
      refine k_iconst (v := 2) X dX7_markBy_k1.1.1.2.1 ic_2 ?_
      refine k_callVI (n := 2) (As := [.int u_1, .int 2]) (st := []) X [(cO8_iiri xm 12 3 xmc xmn), (cAI g xmc 36 xmf)] [(cO7_vrvvii h0 v0h0 xm v2h0 v3h0 xmd xtr)] [1, 2] [0] (t_at l g xm u_1 2 12 3 xmc xmn 36 xmf (tbk_12_3)) dX7_markBy_k1.1.1.2.2 mw388 mw376 mw377 mw64 mw378 rfl 8 rfl rfl 0 _ rfl yk_yX8_at_2 rfl (Nat.le_of_ble_eq_true rfl) (Nat.le_of_ble_eq_true rfl) (Nat.le_of_ble_eq_true rfl) (Nat.le_of_ble_eq_true rfl) (Nat.le_of_ble_eq_true rfl) rfl rfl (vnd_e rfl) rfl (vnd_e rfl) (dsj_e rfl) ?_
      rintro r_17 w ⟨hr_18, rfl⟩
      refine k_ws [(cO7_vrvvii h0 v0h0 xm v2h0 v3h0 xmd xtr), (cO8_iiri xm 12 3 xmc xmn), (cAI g xmc 36 xmf)] rfl ?_
      refine k_iload_n X dX7_markBy_k1.1.2.1.1 3 rfl ?_
      refine k_ic_ne 49 X dX7_markBy_k1.1.2.1.2 (jp_e rfl) (fun h_19 => ?_) (fun h_19 => ?_)
      · skip
        obtain ⟨z_20, ez_20⟩ : ∃ y : Int32, u_1 + Int32.ofInt 1 = y := ⟨_, rfl⟩
        refine k_iinc z_20 [(3, .int z_20), (0, .ref h0), (1, .int p0), (2, .int p1)] 0 X dX7_markBy_k1.2.2.1.1 rfl ez_20 (nlt_e rfl) rfl ?_
        have i_21 : z_20.toInt = u_1.toInt + 1 := in_inc ez_20 (oin_e rfl) iv_9 (zle_e rfl) (zle_e rfl)
        have iv_22 : IV z_20 1 2147483647 := iz1 i_21 iv_9 (zle_e rfl) (zle_e rfl)
        refine k_goto 2 X dX7_markBy_k1.2.2.1.2 (jp_e rfl) ?_
        exact ih_5 _ (by omega) z_20 rfl (iv_w iv_22 (zle_e rfl) (zle_e rfl)) (fun r h => h.elim (fun n_0 q => (KH_0 _ ⟨n_0 + 1, (Or.inr ⟨h_6, ⟨r_11, hr_12, (Or.inr ⟨h_13, ⟨r_17, hr_18, (Or.inl ⟨h_19, ⟨z_20, ez_20, q⟩⟩)⟩⟩)⟩⟩)⟩)))
      · skip
        refine k_aload_n X dX7_markBy_k1.1.2.2.1 1 rfl ?_
        refine k_get (ci := 7) X inlX7 rfl 1 (nlt_e rfl) dX7_markBy_k1.1.2.2.2 mw91 0 rfl rfl ?_
        refine k_iload_n X dX7_markBy_k1.2.1.1.1 0 rfl ?_
        refine k_iconst (v := 1) X dX7_markBy_k1.2.1.1.2 ic_1 ?_
        refine k_callVI (n := 2) (As := [.int u_1, .int 1]) (st := []) X [(cO8_iiri xm 12 3 xmc xmn), (cAI g xmc 36 xmf)] [(cO7_vrvvii h0 v0h0 xm v2h0 v3h0 xmd xtr)] [1, 2] [0] (t_at l g xm u_1 1 12 3 xmc xmn 36 xmf (tbk_12_3)) dX7_markBy_k1.2.1.2.1 mw388 mw376 mw377 mw64 mw378 rfl 8 rfl rfl 0 _ rfl yk_yX8_at_2 rfl (Nat.le_of_ble_eq_true rfl) (Nat.le_of_ble_eq_true rfl) (Nat.le_of_ble_eq_true rfl) (Nat.le_of_ble_eq_true rfl) (Nat.le_of_ble_eq_true rfl) rfl rfl (vnd_e rfl) rfl (vnd_e rfl) (dsj_e rfl) ?_
        rintro r_23 w ⟨hr_24, rfl⟩
        refine k_ws [(cO7_vrvvii h0 v0h0 xm v2h0 v3h0 xmd xtr), (cO8_iiri xm 12 3 xmc xmn), (cAI g xmc 36 xmf)] rfl ?_
        exact k_iret X hr dX7_markBy_k1.2.1.2.2 (Nat.le_of_ble_eq_true rfl) (Nat.le_of_ble_eq_true rfl) [0, 1, 2] (vnd_e rfl) rfl rfl ⟨(KH_0 _ ⟨0 + 1, (Or.inr ⟨h_6, ⟨r_11, hr_12, (Or.inr ⟨h_13, ⟨r_17, hr_18, (Or.inr ⟨h_19, ⟨r_23, hr_24, rfl⟩⟩)⟩⟩)⟩⟩)⟩), rfl⟩


set_option maxHeartbeats 4000000 in
set_option maxRecDepth 100000 in
theorem s_clearX (l : Launch) (g : Gx) (h0 : Nat) (xr : Nat) (xm : Nat) (xw : Nat) (xp : Nat) (xmd : Int32) (xtr : Int32) (xrc : Nat) (xrn : Int32) (xrf : Nat → Int32) (xmc : Nat) (xmn : Int32) (xmf : Nat → Int32) (xwc : Nat) (xwn : Int32) (xwf : Nat → Int32) (xpc : Nat) (xpn : Int32) (xpf : Nat → Int32) : cV l g yX7_clear cX7_clear 1 1 20 0 0 [.ref h0] [(cO7_rrrrii h0 xr xm xw xp xmd xtr), (cO8_iiri xr 8 3 xrc xrn), (cAI g xrc 24 xrf), (cO8_iiri xm 12 3 xmc xmn), (cAI g xmc 36 xmf), (cO8_iiri xw 6 3 xwc xwn), (cAI g xwc 18 xwf), (cO8_iiri xp 8 2 xpc xpn), (cAI g xpc 16 xpf)] (fun w => ∃ (xrg : Nat → Int32) (xmg : Nat → Int32) (xwg : Nat → Int32) (xpg : Nat → Int32) (xrk : Int32) (xmk : Int32) (xwk : Int32) (xpk : Int32) (xmd2 : Int32) (xtr2 : Int32), (R_s_clearX xrf xmf xwf xpf xrg xmg xwg xpg xrk xmk xwk xpk xmd2 xtr2) ∧ w = [(cO7_rrrrii h0 xr xm xw xp xmd2 xtr2), (cO8_iiri xr 8 3 xrc xrk), (cAI g xrc 24 xrg), (cO8_iiri xm 12 3 xmc xmk), (cAI g xmc 36 xmg), (cO8_iiri xw 6 3 xwc xwk), (cAI g xwc 18 xwg), (cO8_iiri xp 8 2 xpc xpk), (cAI g xpc 16 xpg)]) := by
  refine cV.of (by decide) (Nat.le_of_ble_eq_true rfl) ?_
  intro p e s m args below meth c A X hr hi
  refine k_lveq [(0, .ref h0)] rfl ?_
  refine k_aload_n X dX7_clear_k0.1.1.1.1 0 rfl ?_
  refine k_get (ci := 7) X inlX7 rfl 0 (nlt_e rfl) dX7_clear_k0.1.1.1.2 mw90 0 rfl rfl ?_
  refine k_callVV (n := 0) (As := []) (st := []) X [(cO8_iiri xr 8 3 xrc xrn)] [(cO7_rrrrii h0 xr xm xw xp xmd xtr), (cAI g xrc 24 xrf), (cO8_iiri xm 12 3 xmc xmn), (cAI g xmc 36 xmf), (cO8_iiri xw 6 3 xwc xwn), (cAI g xwc 18 xwf), (cO8_iiri xp 8 2 xpc xpn), (cAI g xpc 16 xpf)] [1] [0, 2, 3, 4, 5, 6, 7, 8] (t_clear l g xr (.int 8) (.int 3) (.ref xrc) xrn) dX7_clear_k0.1.1.2.1 mw231 mw232 mw233 mw64 mw234 rfl 8 rfl rfl 0 _ rfl yk_yX8_clear_0 rfl (Nat.le_of_ble_eq_true rfl) (Nat.le_of_ble_eq_true rfl) (Nat.le_of_ble_eq_true rfl) (Nat.le_of_ble_eq_true rfl) (Nat.le_of_ble_eq_true rfl) rfl rfl (vnd_e rfl) rfl (vnd_e rfl) (dsj_e rfl) ?_
  rintro w rfl
  refine k_ws [(cO7_rrrrii h0 xr xm xw xp xmd xtr), (cAI g xrc 24 xrf), (cO8_iiri xm 12 3 xmc xmn), (cAI g xmc 36 xmf), (cO8_iiri xw 6 3 xwc xwn), (cAI g xwc 18 xwf), (cO8_iiri xp 8 2 xpc xpn), (cAI g xpc 16 xpf), (cO8_iiri xr 8 3 xrc 0)] rfl ?_
  refine k_aload_n X dX7_clear_k0.1.1.2.2 0 rfl ?_
  refine k_get (ci := 7) X inlX7 rfl 1 (nlt_e rfl) dX7_clear_k0.1.2.1.1 mw91 0 rfl rfl ?_
  refine k_callVV (n := 0) (As := []) (st := []) X [(cO8_iiri xm 12 3 xmc xmn)] [(cO7_rrrrii h0 xr xm xw xp xmd xtr), (cAI g xrc 24 xrf), (cAI g xmc 36 xmf), (cO8_iiri xw 6 3 xwc xwn), (cAI g xwc 18 xwf), (cO8_iiri xp 8 2 xpc xpn), (cAI g xpc 16 xpf), (cO8_iiri xr 8 3 xrc 0)] [2] [0, 1, 3, 4, 5, 6, 7, 8] (t_clear l g xm (.int 12) (.int 3) (.ref xmc) xmn) dX7_clear_k0.1.2.1.2 mw231 mw232 mw233 mw64 mw234 rfl 8 rfl rfl 0 _ rfl yk_yX8_clear_0 rfl (Nat.le_of_ble_eq_true rfl) (Nat.le_of_ble_eq_true rfl) (Nat.le_of_ble_eq_true rfl) (Nat.le_of_ble_eq_true rfl) (Nat.le_of_ble_eq_true rfl) rfl rfl (vnd_e rfl) rfl (vnd_e rfl) (dsj_e rfl) ?_
  rintro w rfl
  refine k_ws [(cO7_rrrrii h0 xr xm xw xp xmd xtr), (cAI g xrc 24 xrf), (cAI g xmc 36 xmf), (cO8_iiri xw 6 3 xwc xwn), (cAI g xwc 18 xwf), (cO8_iiri xp 8 2 xpc xpn), (cAI g xpc 16 xpf), (cO8_iiri xr 8 3 xrc 0), (cO8_iiri xm 12 3 xmc 0)] rfl ?_
  refine k_aload_n X dX7_clear_k0.1.2.2.1 0 rfl ?_
  refine k_get (ci := 7) X inlX7 rfl 2 (nlt_e rfl) dX7_clear_k0.1.2.2.2 mw92 0 rfl rfl ?_
  refine k_callVV (n := 0) (As := []) (st := []) X [(cO8_iiri xw 6 3 xwc xwn)] [(cO7_rrrrii h0 xr xm xw xp xmd xtr), (cAI g xrc 24 xrf), (cAI g xmc 36 xmf), (cAI g xwc 18 xwf), (cO8_iiri xp 8 2 xpc xpn), (cAI g xpc 16 xpf), (cO8_iiri xr 8 3 xrc 0), (cO8_iiri xm 12 3 xmc 0)] [3] [0, 1, 2, 4, 5, 6, 7, 8] (t_clear l g xw (.int 6) (.int 3) (.ref xwc) xwn) dX7_clear_k0.2.1.1.1 mw231 mw232 mw233 mw64 mw234 rfl 8 rfl rfl 0 _ rfl yk_yX8_clear_0 rfl (Nat.le_of_ble_eq_true rfl) (Nat.le_of_ble_eq_true rfl) (Nat.le_of_ble_eq_true rfl) (Nat.le_of_ble_eq_true rfl) (Nat.le_of_ble_eq_true rfl) rfl rfl (vnd_e rfl) rfl (vnd_e rfl) (dsj_e rfl) ?_
  rintro w rfl
  refine k_ws [(cO7_rrrrii h0 xr xm xw xp xmd xtr), (cAI g xrc 24 xrf), (cAI g xmc 36 xmf), (cAI g xwc 18 xwf), (cO8_iiri xp 8 2 xpc xpn), (cAI g xpc 16 xpf), (cO8_iiri xr 8 3 xrc 0), (cO8_iiri xm 12 3 xmc 0), (cO8_iiri xw 6 3 xwc 0)] rfl ?_
  refine k_aload_n X dX7_clear_k0.2.1.1.2 0 rfl ?_
  refine k_get (ci := 7) X inlX7 rfl 3 (nlt_e rfl) dX7_clear_k0.2.1.2.1 mw93 0 rfl rfl ?_
  refine k_callVV (n := 0) (As := []) (st := []) X [(cO8_iiri xp 8 2 xpc xpn)] [(cO7_rrrrii h0 xr xm xw xp xmd xtr), (cAI g xrc 24 xrf), (cAI g xmc 36 xmf), (cAI g xwc 18 xwf), (cAI g xpc 16 xpf), (cO8_iiri xr 8 3 xrc 0), (cO8_iiri xm 12 3 xmc 0), (cO8_iiri xw 6 3 xwc 0)] [4] [0, 1, 2, 3, 5, 6, 7, 8] (t_clear l g xp (.int 8) (.int 2) (.ref xpc) xpn) dX7_clear_k0.2.1.2.2 mw231 mw232 mw233 mw64 mw234 rfl 8 rfl rfl 0 _ rfl yk_yX8_clear_0 rfl (Nat.le_of_ble_eq_true rfl) (Nat.le_of_ble_eq_true rfl) (Nat.le_of_ble_eq_true rfl) (Nat.le_of_ble_eq_true rfl) (Nat.le_of_ble_eq_true rfl) rfl rfl (vnd_e rfl) rfl (vnd_e rfl) (dsj_e rfl) ?_
  rintro w rfl
  refine k_ws [(cO7_rrrrii h0 xr xm xw xp xmd xtr), (cAI g xrc 24 xrf), (cAI g xmc 36 xmf), (cAI g xwc 18 xwf), (cAI g xpc 16 xpf), (cO8_iiri xr 8 3 xrc 0), (cO8_iiri xm 12 3 xmc 0), (cO8_iiri xw 6 3 xwc 0), (cO8_iiri xp 8 2 xpc 0)] rfl ?_
  refine k_aload_n X dX7_clear_k0.2.2.1.1 0 rfl ?_
  refine k_iconst (v := 0) X dX7_clear_k0.2.2.1.2 ic_0 ?_
  refine k_put (ci := 7) [(cO7_rrrrii h0 xr xm xw xp 0 xtr), (cAI g xrc 24 xrf), (cAI g xmc 36 xmf), (cAI g xwc 18 xwf), (cAI g xpc 16 xpf), (cO8_iiri xr 8 3 xrc 0), (cO8_iiri xm 12 3 xmc 0), (cO8_iiri xw 6 3 xwc 0), (cO8_iiri xp 8 2 xpc 0)] X inlX7 rfl tyX7_ok nmX7 4 (nlt_e rfl) rfl dX7_clear_k0.2.2.2.1 mw94 0 rfl rfl rfl (Nat.le_of_ble_eq_true rfl) rfl ?_
  refine k_aload_n X dX7_clear_k0.2.2.2.2 0 rfl ?_
  refine k_iconst (v := 0) X dX7_clear_k1.1 ic_0 ?_
  refine k_put (ci := 7) [(cO7_rrrrii h0 xr xm xw xp 0 0), (cAI g xrc 24 xrf), (cAI g xmc 36 xmf), (cAI g xwc 18 xwf), (cAI g xpc 16 xpf), (cO8_iiri xr 8 3 xrc 0), (cO8_iiri xm 12 3 xmc 0), (cO8_iiri xw 6 3 xwc 0), (cO8_iiri xp 8 2 xpc 0)] X inlX7 rfl tyX7_ok nmX7 5 (nlt_e rfl) rfl dX7_clear_k1.2.1 mw95 0 rfl rfl rfl (Nat.le_of_ble_eq_true rfl) rfl ?_
  exact k_vret X hr dX7_clear_k1.2.2 (Nat.le_of_ble_eq_true rfl) (Nat.le_of_ble_eq_true rfl) [0, 5, 1, 6, 2, 7, 3, 8, 4] (vnd_e rfl) rfl rfl (exI10 xrf xmf xwf xpf 0 0 0 0 0 0 ⟨⟨rfl, rfl, rfl, rfl, rfl, rfl, rfl, rfl, rfl, rfl⟩, rfl⟩)


set_option maxHeartbeats 4000000 in
set_option maxRecDepth 100000 in
theorem h_clearX (l : Launch) (g : Gx) (h0 : Nat) (xs : Nat) (xhn : Nat) (xht : Nat) (xhj : Nat) (xhm : Nat) (xhb : Nat) (xhs : Nat) (xhc : Nat) (xr : Nat) (xm : Nat) (xw : Nat) (xp : Nat) (xmd : Int32) (xtr : Int32) (xrc : Nat) (xrn : Int32) (xrf : Nat → Int32) (xmc : Nat) (xmn : Int32) (xmf : Nat → Int32) (xwc : Nat) (xwn : Int32) (xwf : Nat → Int32) (xpc : Nat) (xpn : Int32) (xpf : Nat → Int32) (xhnc : Nat) (xhnn : Int32) (xhnf : Nat → Int32) (xhtc : Nat) (xhtn : Int32) (xhtf : Nat → Int32) (xhjc : Nat) (xhjn : Int32) (xhjf : Nat → Int32) (xhmc : Nat) (xhmn : Int32) (xhmf : Nat → Int32) (xhbc : Nat) (xhbn : Int32) (xhbf : Nat → Int32) (xhsc : Nat) (xhsn : Int32) (xhsf : Nat → Int32) (xhcc : Nat) (xhcn : Int32) (xhcf : Nat → Int32) : cV l g yX3_clear cX3_clear 1 2 40 0 0 [.ref h0] ((cO3_rrrrrrrr h0 xs xhn xht xhj xhm xhb xhs xhc) :: (cO7_rrrrii xs xr xm xw xp xmd xtr) :: (cO8_iiri xr 8 3 xrc xrn) :: (cAI g xrc 24 xrf) :: (cO8_iiri xm 12 3 xmc xmn) :: (cAI g xmc 36 xmf) :: (cO8_iiri xw 6 3 xwc xwn) :: (cAI g xwc 18 xwf) :: (cO8_iiri xp 8 2 xpc xpn) :: (cAI g xpc 16 xpf) :: (cO8_iiri xhn 1 6 xhnc xhnn) :: (cAI g xhnc 6 xhnf) :: (cO8_iiri xht 4 1 xhtc xhtn) :: (cAI g xhtc 4 xhtf) :: (cO8_iiri xhj 8 2 xhjc xhjn) :: (cAI g xhjc 16 xhjf) :: (cO8_iiri xhm 4 3 xhmc xhmn) :: (cAI g xhmc 12 xhmf) :: (cO8_iiri xhb 1 3 xhbc xhbn) :: (cAI g xhbc 3 xhbf) :: (cO8_iiri xhs 6 3 xhsc xhsn) :: (cAI g xhsc 18 xhsf) :: (cO8_iiri xhc 6 2 xhcc xhcn) :: (cAI g xhcc 12 xhcf) :: []) (fun w => ∃ (xrg : Nat → Int32) (xmg : Nat → Int32) (xwg : Nat → Int32) (xpg : Nat → Int32) (xrk : Int32) (xmk : Int32) (xwk : Int32) (xpk : Int32) (xmd2 : Int32) (xtr2 : Int32) (xhng : Nat → Int32) (xhtg : Nat → Int32) (xhjg : Nat → Int32) (xhmg : Nat → Int32) (xhbg : Nat → Int32) (xhsg : Nat → Int32) (xhcg : Nat → Int32) (xhnk : Int32) (xhtk : Int32) (xhjk : Int32) (xhmk : Int32) (xhbk : Int32) (xhsk : Int32) (xhck : Int32), (R_h_clearX xrf xmf xwf xpf xhnf xhtf xhjf xhmf xhbf xhsf xhcf xrg xmg xwg xpg xrk xmk xwk xpk xmd2 xtr2 xhng xhtg xhjg xhmg xhbg xhsg xhcg xhnk xhtk xhjk xhmk xhbk xhsk xhck) ∧ w = ((cO3_rrrrrrrr h0 xs xhn xht xhj xhm xhb xhs xhc) :: (cO7_rrrrii xs xr xm xw xp xmd2 xtr2) :: (cO8_iiri xr 8 3 xrc xrk) :: (cAI g xrc 24 xrg) :: (cO8_iiri xm 12 3 xmc xmk) :: (cAI g xmc 36 xmg) :: (cO8_iiri xw 6 3 xwc xwk) :: (cAI g xwc 18 xwg) :: (cO8_iiri xp 8 2 xpc xpk) :: (cAI g xpc 16 xpg) :: (cO8_iiri xhn 1 6 xhnc xhnk) :: (cAI g xhnc 6 xhng) :: (cO8_iiri xht 4 1 xhtc xhtk) :: (cAI g xhtc 4 xhtg) :: (cO8_iiri xhj 8 2 xhjc xhjk) :: (cAI g xhjc 16 xhjg) :: (cO8_iiri xhm 4 3 xhmc xhmk) :: (cAI g xhmc 12 xhmg) :: (cO8_iiri xhb 1 3 xhbc xhbk) :: (cAI g xhbc 3 xhbg) :: (cO8_iiri xhs 6 3 xhsc xhsk) :: (cAI g xhsc 18 xhsg) :: (cO8_iiri xhc 6 2 xhcc xhck) :: (cAI g xhcc 12 xhcg) :: [])) := by
  refine cV.of (by decide) (Nat.le_of_ble_eq_true rfl) ?_
  intro p e s m args below meth c A X hr hi
  refine k_lveq [(0, .ref h0)] rfl ?_
  refine k_aload_n X dX3_clear_k0.1.1.1.1 0 rfl ?_
  refine k_get (ci := 3) X inlX3 rfl 0 (nlt_e rfl) dX3_clear_k0.1.1.1.2 mw77 0 rfl rfl ?_
  refine k_callVV (n := 0) (As := []) (st := []) X [(cO7_rrrrii xs xr xm xw xp xmd xtr), (cO8_iiri xr 8 3 xrc xrn), (cAI g xrc 24 xrf), (cO8_iiri xm 12 3 xmc xmn), (cAI g xmc 36 xmf), (cO8_iiri xw 6 3 xwc xwn), (cAI g xwc 18 xwf), (cO8_iiri xp 8 2 xpc xpn), (cAI g xpc 16 xpf)] [(cO3_rrrrrrrr h0 xs xhn xht xhj xhm xhb xhs xhc), (cO8_iiri xhn 1 6 xhnc xhnn), (cAI g xhnc 6 xhnf), (cO8_iiri xht 4 1 xhtc xhtn), (cAI g xhtc 4 xhtf), (cO8_iiri xhj 8 2 xhjc xhjn), (cAI g xhjc 16 xhjf), (cO8_iiri xhm 4 3 xhmc xhmn), (cAI g xhmc 12 xhmf), (cO8_iiri xhb 1 3 xhbc xhbn), (cAI g xhbc 3 xhbf), (cO8_iiri xhs 6 3 xhsc xhsn), (cAI g xhsc 18 xhsf), (cO8_iiri xhc 6 2 xhcc xhcn), (cAI g xhcc 12 xhcf)] [1, 2, 3, 4, 5, 6, 7, 8, 9] [0, 10, 11, 12, 13, 14, 15, 16, 17, 18, 19, 20, 21, 22, 23] (s_clearX l g xs xr xm xw xp xmd xtr xrc xrn xrf xmc xmn xmf xwc xwn xwf xpc xpn xpf) dX3_clear_k0.1.1.2.1 mw227 mw228 mw229 mw23 mw230 rfl 7 rfl rfl 0 _ rfl yk_yX7_clear_0 rfl (Nat.le_of_ble_eq_true rfl) (Nat.le_of_ble_eq_true rfl) (Nat.le_of_ble_eq_true rfl) (Nat.le_of_ble_eq_true rfl) (Nat.le_of_ble_eq_true rfl) rfl rfl (by decide +kernel) rfl (by decide +kernel) (by decide +kernel) ?_
  intro w zq
  refine exE10 zq ?_
  clear zq
  intro xrg_1 xmg_2 xwg_3 xpg_4 xrk_5 xmk_6 xwk_7 xpk_8 xmd2_9 xtr2_10 hq_12 zq
  subst zq
  refine k_ws ((cO3_rrrrrrrr h0 xs xhn xht xhj xhm xhb xhs xhc) :: (cO8_iiri xhn 1 6 xhnc xhnn) :: (cAI g xhnc 6 xhnf) :: (cO8_iiri xht 4 1 xhtc xhtn) :: (cAI g xhtc 4 xhtf) :: (cO8_iiri xhj 8 2 xhjc xhjn) :: (cAI g xhjc 16 xhjf) :: (cO8_iiri xhm 4 3 xhmc xhmn) :: (cAI g xhmc 12 xhmf) :: (cO8_iiri xhb 1 3 xhbc xhbn) :: (cAI g xhbc 3 xhbf) :: (cO8_iiri xhs 6 3 xhsc xhsn) :: (cAI g xhsc 18 xhsf) :: (cO8_iiri xhc 6 2 xhcc xhcn) :: (cAI g xhcc 12 xhcf) :: (cO7_rrrrii xs xr xm xw xp xmd2_9 xtr2_10) :: (cO8_iiri xr 8 3 xrc xrk_5) :: (cAI g xrc 24 xrg_1) :: (cO8_iiri xm 12 3 xmc xmk_6) :: (cAI g xmc 36 xmg_2) :: (cO8_iiri xw 6 3 xwc xwk_7) :: (cAI g xwc 18 xwg_3) :: (cO8_iiri xp 8 2 xpc xpk_8) :: (cAI g xpc 16 xpg_4) :: []) rfl ?_
  refine k_aload_n X dX3_clear_k0.1.1.2.2 0 rfl ?_
  refine k_get (ci := 3) X inlX3 rfl 1 (nlt_e rfl) dX3_clear_k0.1.2.1.1 mw79 0 rfl rfl ?_
  refine k_callVV (n := 0) (As := []) (st := []) X [(cO8_iiri xhn 1 6 xhnc xhnn)] ((cO3_rrrrrrrr h0 xs xhn xht xhj xhm xhb xhs xhc) :: (cAI g xhnc 6 xhnf) :: (cO8_iiri xht 4 1 xhtc xhtn) :: (cAI g xhtc 4 xhtf) :: (cO8_iiri xhj 8 2 xhjc xhjn) :: (cAI g xhjc 16 xhjf) :: (cO8_iiri xhm 4 3 xhmc xhmn) :: (cAI g xhmc 12 xhmf) :: (cO8_iiri xhb 1 3 xhbc xhbn) :: (cAI g xhbc 3 xhbf) :: (cO8_iiri xhs 6 3 xhsc xhsn) :: (cAI g xhsc 18 xhsf) :: (cO8_iiri xhc 6 2 xhcc xhcn) :: (cAI g xhcc 12 xhcf) :: (cO7_rrrrii xs xr xm xw xp xmd2_9 xtr2_10) :: (cO8_iiri xr 8 3 xrc xrk_5) :: (cAI g xrc 24 xrg_1) :: (cO8_iiri xm 12 3 xmc xmk_6) :: (cAI g xmc 36 xmg_2) :: (cO8_iiri xw 6 3 xwc xwk_7) :: (cAI g xwc 18 xwg_3) :: (cO8_iiri xp 8 2 xpc xpk_8) :: (cAI g xpc 16 xpg_4) :: []) [1] [0, 2, 3, 4, 5, 6, 7, 8, 9, 10, 11, 12, 13, 14, 15, 16, 17, 18, 19, 20, 21, 22, 23] (t_clear l g xhn (.int 1) (.int 6) (.ref xhnc) xhnn) dX3_clear_k0.1.2.1.2 mw235 mw232 mw233 mw64 mw234 rfl 8 rfl rfl 0 _ rfl yk_yX8_clear_0 rfl (Nat.le_of_ble_eq_true rfl) (Nat.le_of_ble_eq_true rfl) (Nat.le_of_ble_eq_true rfl) (Nat.le_of_ble_eq_true rfl) (Nat.le_of_ble_eq_true rfl) rfl rfl (vnd_e rfl) rfl (vnd_e rfl) (dsj_e rfl) ?_
  rintro w rfl
  refine k_ws ((cO3_rrrrrrrr h0 xs xhn xht xhj xhm xhb xhs xhc) :: (cAI g xhnc 6 xhnf) :: (cO8_iiri xht 4 1 xhtc xhtn) :: (cAI g xhtc 4 xhtf) :: (cO8_iiri xhj 8 2 xhjc xhjn) :: (cAI g xhjc 16 xhjf) :: (cO8_iiri xhm 4 3 xhmc xhmn) :: (cAI g xhmc 12 xhmf) :: (cO8_iiri xhb 1 3 xhbc xhbn) :: (cAI g xhbc 3 xhbf) :: (cO8_iiri xhs 6 3 xhsc xhsn) :: (cAI g xhsc 18 xhsf) :: (cO8_iiri xhc 6 2 xhcc xhcn) :: (cAI g xhcc 12 xhcf) :: (cO7_rrrrii xs xr xm xw xp xmd2_9 xtr2_10) :: (cO8_iiri xr 8 3 xrc xrk_5) :: (cAI g xrc 24 xrg_1) :: (cO8_iiri xm 12 3 xmc xmk_6) :: (cAI g xmc 36 xmg_2) :: (cO8_iiri xw 6 3 xwc xwk_7) :: (cAI g xwc 18 xwg_3) :: (cO8_iiri xp 8 2 xpc xpk_8) :: (cAI g xpc 16 xpg_4) :: (cO8_iiri xhn 1 6 xhnc 0) :: []) rfl ?_
  refine k_aload_n X dX3_clear_k0.1.2.2.1 0 rfl ?_
  refine k_get (ci := 3) X inlX3 rfl 2 (nlt_e rfl) dX3_clear_k0.1.2.2.2 mw80 0 rfl rfl ?_
  refine k_callVV (n := 0) (As := []) (st := []) X [(cO8_iiri xht 4 1 xhtc xhtn)] ((cO3_rrrrrrrr h0 xs xhn xht xhj xhm xhb xhs xhc) :: (cAI g xhnc 6 xhnf) :: (cAI g xhtc 4 xhtf) :: (cO8_iiri xhj 8 2 xhjc xhjn) :: (cAI g xhjc 16 xhjf) :: (cO8_iiri xhm 4 3 xhmc xhmn) :: (cAI g xhmc 12 xhmf) :: (cO8_iiri xhb 1 3 xhbc xhbn) :: (cAI g xhbc 3 xhbf) :: (cO8_iiri xhs 6 3 xhsc xhsn) :: (cAI g xhsc 18 xhsf) :: (cO8_iiri xhc 6 2 xhcc xhcn) :: (cAI g xhcc 12 xhcf) :: (cO7_rrrrii xs xr xm xw xp xmd2_9 xtr2_10) :: (cO8_iiri xr 8 3 xrc xrk_5) :: (cAI g xrc 24 xrg_1) :: (cO8_iiri xm 12 3 xmc xmk_6) :: (cAI g xmc 36 xmg_2) :: (cO8_iiri xw 6 3 xwc xwk_7) :: (cAI g xwc 18 xwg_3) :: (cO8_iiri xp 8 2 xpc xpk_8) :: (cAI g xpc 16 xpg_4) :: (cO8_iiri xhn 1 6 xhnc 0) :: []) [2] [0, 1, 3, 4, 5, 6, 7, 8, 9, 10, 11, 12, 13, 14, 15, 16, 17, 18, 19, 20, 21, 22, 23] (t_clear l g xht (.int 4) (.int 1) (.ref xhtc) xhtn) dX3_clear_k0.2.1.1.1 mw235 mw232 mw233 mw64 mw234 rfl 8 rfl rfl 0 _ rfl yk_yX8_clear_0 rfl (Nat.le_of_ble_eq_true rfl) (Nat.le_of_ble_eq_true rfl) (Nat.le_of_ble_eq_true rfl) (Nat.le_of_ble_eq_true rfl) (Nat.le_of_ble_eq_true rfl) rfl rfl (vnd_e rfl) rfl (vnd_e rfl) (dsj_e rfl) ?_
  rintro w rfl
  refine k_ws ((cO3_rrrrrrrr h0 xs xhn xht xhj xhm xhb xhs xhc) :: (cAI g xhnc 6 xhnf) :: (cAI g xhtc 4 xhtf) :: (cO8_iiri xhj 8 2 xhjc xhjn) :: (cAI g xhjc 16 xhjf) :: (cO8_iiri xhm 4 3 xhmc xhmn) :: (cAI g xhmc 12 xhmf) :: (cO8_iiri xhb 1 3 xhbc xhbn) :: (cAI g xhbc 3 xhbf) :: (cO8_iiri xhs 6 3 xhsc xhsn) :: (cAI g xhsc 18 xhsf) :: (cO8_iiri xhc 6 2 xhcc xhcn) :: (cAI g xhcc 12 xhcf) :: (cO7_rrrrii xs xr xm xw xp xmd2_9 xtr2_10) :: (cO8_iiri xr 8 3 xrc xrk_5) :: (cAI g xrc 24 xrg_1) :: (cO8_iiri xm 12 3 xmc xmk_6) :: (cAI g xmc 36 xmg_2) :: (cO8_iiri xw 6 3 xwc xwk_7) :: (cAI g xwc 18 xwg_3) :: (cO8_iiri xp 8 2 xpc xpk_8) :: (cAI g xpc 16 xpg_4) :: (cO8_iiri xhn 1 6 xhnc 0) :: (cO8_iiri xht 4 1 xhtc 0) :: []) rfl ?_
  refine k_aload_n X dX3_clear_k0.2.1.1.2 0 rfl ?_
  refine k_get (ci := 3) X inlX3 rfl 3 (nlt_e rfl) dX3_clear_k0.2.1.2.1 mw81 0 rfl rfl ?_
  refine k_callVV (n := 0) (As := []) (st := []) X [(cO8_iiri xhj 8 2 xhjc xhjn)] ((cO3_rrrrrrrr h0 xs xhn xht xhj xhm xhb xhs xhc) :: (cAI g xhnc 6 xhnf) :: (cAI g xhtc 4 xhtf) :: (cAI g xhjc 16 xhjf) :: (cO8_iiri xhm 4 3 xhmc xhmn) :: (cAI g xhmc 12 xhmf) :: (cO8_iiri xhb 1 3 xhbc xhbn) :: (cAI g xhbc 3 xhbf) :: (cO8_iiri xhs 6 3 xhsc xhsn) :: (cAI g xhsc 18 xhsf) :: (cO8_iiri xhc 6 2 xhcc xhcn) :: (cAI g xhcc 12 xhcf) :: (cO7_rrrrii xs xr xm xw xp xmd2_9 xtr2_10) :: (cO8_iiri xr 8 3 xrc xrk_5) :: (cAI g xrc 24 xrg_1) :: (cO8_iiri xm 12 3 xmc xmk_6) :: (cAI g xmc 36 xmg_2) :: (cO8_iiri xw 6 3 xwc xwk_7) :: (cAI g xwc 18 xwg_3) :: (cO8_iiri xp 8 2 xpc xpk_8) :: (cAI g xpc 16 xpg_4) :: (cO8_iiri xhn 1 6 xhnc 0) :: (cO8_iiri xht 4 1 xhtc 0) :: []) [3] [0, 1, 2, 4, 5, 6, 7, 8, 9, 10, 11, 12, 13, 14, 15, 16, 17, 18, 19, 20, 21, 22, 23] (t_clear l g xhj (.int 8) (.int 2) (.ref xhjc) xhjn) dX3_clear_k0.2.1.2.2 mw235 mw232 mw233 mw64 mw234 rfl 8 rfl rfl 0 _ rfl yk_yX8_clear_0 rfl (Nat.le_of_ble_eq_true rfl) (Nat.le_of_ble_eq_true rfl) (Nat.le_of_ble_eq_true rfl) (Nat.le_of_ble_eq_true rfl) (Nat.le_of_ble_eq_true rfl) rfl rfl (vnd_e rfl) rfl (vnd_e rfl) (dsj_e rfl) ?_
  rintro w rfl
  refine k_ws ((cO3_rrrrrrrr h0 xs xhn xht xhj xhm xhb xhs xhc) :: (cAI g xhnc 6 xhnf) :: (cAI g xhtc 4 xhtf) :: (cAI g xhjc 16 xhjf) :: (cO8_iiri xhm 4 3 xhmc xhmn) :: (cAI g xhmc 12 xhmf) :: (cO8_iiri xhb 1 3 xhbc xhbn) :: (cAI g xhbc 3 xhbf) :: (cO8_iiri xhs 6 3 xhsc xhsn) :: (cAI g xhsc 18 xhsf) :: (cO8_iiri xhc 6 2 xhcc xhcn) :: (cAI g xhcc 12 xhcf) :: (cO7_rrrrii xs xr xm xw xp xmd2_9 xtr2_10) :: (cO8_iiri xr 8 3 xrc xrk_5) :: (cAI g xrc 24 xrg_1) :: (cO8_iiri xm 12 3 xmc xmk_6) :: (cAI g xmc 36 xmg_2) :: (cO8_iiri xw 6 3 xwc xwk_7) :: (cAI g xwc 18 xwg_3) :: (cO8_iiri xp 8 2 xpc xpk_8) :: (cAI g xpc 16 xpg_4) :: (cO8_iiri xhn 1 6 xhnc 0) :: (cO8_iiri xht 4 1 xhtc 0) :: (cO8_iiri xhj 8 2 xhjc 0) :: []) rfl ?_
  refine k_aload_n X dX3_clear_k0.2.2.1.1 0 rfl ?_
  refine k_get (ci := 3) X inlX3 rfl 4 (nlt_e rfl) dX3_clear_k0.2.2.1.2 mw82 0 rfl rfl ?_
  refine k_callVV (n := 0) (As := []) (st := []) X [(cO8_iiri xhm 4 3 xhmc xhmn)] ((cO3_rrrrrrrr h0 xs xhn xht xhj xhm xhb xhs xhc) :: (cAI g xhnc 6 xhnf) :: (cAI g xhtc 4 xhtf) :: (cAI g xhjc 16 xhjf) :: (cAI g xhmc 12 xhmf) :: (cO8_iiri xhb 1 3 xhbc xhbn) :: (cAI g xhbc 3 xhbf) :: (cO8_iiri xhs 6 3 xhsc xhsn) :: (cAI g xhsc 18 xhsf) :: (cO8_iiri xhc 6 2 xhcc xhcn) :: (cAI g xhcc 12 xhcf) :: (cO7_rrrrii xs xr xm xw xp xmd2_9 xtr2_10) :: (cO8_iiri xr 8 3 xrc xrk_5) :: (cAI g xrc 24 xrg_1) :: (cO8_iiri xm 12 3 xmc xmk_6) :: (cAI g xmc 36 xmg_2) :: (cO8_iiri xw 6 3 xwc xwk_7) :: (cAI g xwc 18 xwg_3) :: (cO8_iiri xp 8 2 xpc xpk_8) :: (cAI g xpc 16 xpg_4) :: (cO8_iiri xhn 1 6 xhnc 0) :: (cO8_iiri xht 4 1 xhtc 0) :: (cO8_iiri xhj 8 2 xhjc 0) :: []) [4] [0, 1, 2, 3, 5, 6, 7, 8, 9, 10, 11, 12, 13, 14, 15, 16, 17, 18, 19, 20, 21, 22, 23] (t_clear l g xhm (.int 4) (.int 3) (.ref xhmc) xhmn) dX3_clear_k0.2.2.2.1 mw235 mw232 mw233 mw64 mw234 rfl 8 rfl rfl 0 _ rfl yk_yX8_clear_0 rfl (Nat.le_of_ble_eq_true rfl) (Nat.le_of_ble_eq_true rfl) (Nat.le_of_ble_eq_true rfl) (Nat.le_of_ble_eq_true rfl) (Nat.le_of_ble_eq_true rfl) rfl rfl (vnd_e rfl) rfl (vnd_e rfl) (dsj_e rfl) ?_
  rintro w rfl
  refine k_ws ((cO3_rrrrrrrr h0 xs xhn xht xhj xhm xhb xhs xhc) :: (cAI g xhnc 6 xhnf) :: (cAI g xhtc 4 xhtf) :: (cAI g xhjc 16 xhjf) :: (cAI g xhmc 12 xhmf) :: (cO8_iiri xhb 1 3 xhbc xhbn) :: (cAI g xhbc 3 xhbf) :: (cO8_iiri xhs 6 3 xhsc xhsn) :: (cAI g xhsc 18 xhsf) :: (cO8_iiri xhc 6 2 xhcc xhcn) :: (cAI g xhcc 12 xhcf) :: (cO7_rrrrii xs xr xm xw xp xmd2_9 xtr2_10) :: (cO8_iiri xr 8 3 xrc xrk_5) :: (cAI g xrc 24 xrg_1) :: (cO8_iiri xm 12 3 xmc xmk_6) :: (cAI g xmc 36 xmg_2) :: (cO8_iiri xw 6 3 xwc xwk_7) :: (cAI g xwc 18 xwg_3) :: (cO8_iiri xp 8 2 xpc xpk_8) :: (cAI g xpc 16 xpg_4) :: (cO8_iiri xhn 1 6 xhnc 0) :: (cO8_iiri xht 4 1 xhtc 0) :: (cO8_iiri xhj 8 2 xhjc 0) :: (cO8_iiri xhm 4 3 xhmc 0) :: []) rfl ?_
  refine k_aload_n X dX3_clear_k0.2.2.2.2 0 rfl ?_
  refine k_get (ci := 3) X inlX3 rfl 5 (nlt_e rfl) dX3_clear_k1.1.1.1 mw83 0 rfl rfl ?_
  refine k_callVV (n := 0) (As := []) (st := []) X [(cO8_iiri xhb 1 3 xhbc xhbn)] ((cO3_rrrrrrrr h0 xs xhn xht xhj xhm xhb xhs xhc) :: (cAI g xhnc 6 xhnf) :: (cAI g xhtc 4 xhtf) :: (cAI g xhjc 16 xhjf) :: (cAI g xhmc 12 xhmf) :: (cAI g xhbc 3 xhbf) :: (cO8_iiri xhs 6 3 xhsc xhsn) :: (cAI g xhsc 18 xhsf) :: (cO8_iiri xhc 6 2 xhcc xhcn) :: (cAI g xhcc 12 xhcf) :: (cO7_rrrrii xs xr xm xw xp xmd2_9 xtr2_10) :: (cO8_iiri xr 8 3 xrc xrk_5) :: (cAI g xrc 24 xrg_1) :: (cO8_iiri xm 12 3 xmc xmk_6) :: (cAI g xmc 36 xmg_2) :: (cO8_iiri xw 6 3 xwc xwk_7) :: (cAI g xwc 18 xwg_3) :: (cO8_iiri xp 8 2 xpc xpk_8) :: (cAI g xpc 16 xpg_4) :: (cO8_iiri xhn 1 6 xhnc 0) :: (cO8_iiri xht 4 1 xhtc 0) :: (cO8_iiri xhj 8 2 xhjc 0) :: (cO8_iiri xhm 4 3 xhmc 0) :: []) [5] [0, 1, 2, 3, 4, 6, 7, 8, 9, 10, 11, 12, 13, 14, 15, 16, 17, 18, 19, 20, 21, 22, 23] (t_clear l g xhb (.int 1) (.int 3) (.ref xhbc) xhbn) dX3_clear_k1.1.1.2 mw235 mw232 mw233 mw64 mw234 rfl 8 rfl rfl 0 _ rfl yk_yX8_clear_0 rfl (Nat.le_of_ble_eq_true rfl) (Nat.le_of_ble_eq_true rfl) (Nat.le_of_ble_eq_true rfl) (Nat.le_of_ble_eq_true rfl) (Nat.le_of_ble_eq_true rfl) rfl rfl (vnd_e rfl) rfl (vnd_e rfl) (dsj_e rfl) ?_
  rintro w rfl
  refine k_ws ((cO3_rrrrrrrr h0 xs xhn xht xhj xhm xhb xhs xhc) :: (cAI g xhnc 6 xhnf) :: (cAI g xhtc 4 xhtf) :: (cAI g xhjc 16 xhjf) :: (cAI g xhmc 12 xhmf) :: (cAI g xhbc 3 xhbf) :: (cO8_iiri xhs 6 3 xhsc xhsn) :: (cAI g xhsc 18 xhsf) :: (cO8_iiri xhc 6 2 xhcc xhcn) :: (cAI g xhcc 12 xhcf) :: (cO7_rrrrii xs xr xm xw xp xmd2_9 xtr2_10) :: (cO8_iiri xr 8 3 xrc xrk_5) :: (cAI g xrc 24 xrg_1) :: (cO8_iiri xm 12 3 xmc xmk_6) :: (cAI g xmc 36 xmg_2) :: (cO8_iiri xw 6 3 xwc xwk_7) :: (cAI g xwc 18 xwg_3) :: (cO8_iiri xp 8 2 xpc xpk_8) :: (cAI g xpc 16 xpg_4) :: (cO8_iiri xhn 1 6 xhnc 0) :: (cO8_iiri xht 4 1 xhtc 0) :: (cO8_iiri xhj 8 2 xhjc 0) :: (cO8_iiri xhm 4 3 xhmc 0) :: (cO8_iiri xhb 1 3 xhbc 0) :: []) rfl ?_
  refine k_aload_n X dX3_clear_k1.1.2.1 0 rfl ?_
  refine k_get (ci := 3) X inlX3 rfl 6 (nlt_e rfl) dX3_clear_k1.1.2.2 mw84 0 rfl rfl ?_
  refine k_callVV (n := 0) (As := []) (st := []) X [(cO8_iiri xhs 6 3 xhsc xhsn)] ((cO3_rrrrrrrr h0 xs xhn xht xhj xhm xhb xhs xhc) :: (cAI g xhnc 6 xhnf) :: (cAI g xhtc 4 xhtf) :: (cAI g xhjc 16 xhjf) :: (cAI g xhmc 12 xhmf) :: (cAI g xhbc 3 xhbf) :: (cAI g xhsc 18 xhsf) :: (cO8_iiri xhc 6 2 xhcc xhcn) :: (cAI g xhcc 12 xhcf) :: (cO7_rrrrii xs xr xm xw xp xmd2_9 xtr2_10) :: (cO8_iiri xr 8 3 xrc xrk_5) :: (cAI g xrc 24 xrg_1) :: (cO8_iiri xm 12 3 xmc xmk_6) :: (cAI g xmc 36 xmg_2) :: (cO8_iiri xw 6 3 xwc xwk_7) :: (cAI g xwc 18 xwg_3) :: (cO8_iiri xp 8 2 xpc xpk_8) :: (cAI g xpc 16 xpg_4) :: (cO8_iiri xhn 1 6 xhnc 0) :: (cO8_iiri xht 4 1 xhtc 0) :: (cO8_iiri xhj 8 2 xhjc 0) :: (cO8_iiri xhm 4 3 xhmc 0) :: (cO8_iiri xhb 1 3 xhbc 0) :: []) [6] [0, 1, 2, 3, 4, 5, 7, 8, 9, 10, 11, 12, 13, 14, 15, 16, 17, 18, 19, 20, 21, 22, 23] (t_clear l g xhs (.int 6) (.int 3) (.ref xhsc) xhsn) dX3_clear_k1.2.1.1 mw235 mw232 mw233 mw64 mw234 rfl 8 rfl rfl 0 _ rfl yk_yX8_clear_0 rfl (Nat.le_of_ble_eq_true rfl) (Nat.le_of_ble_eq_true rfl) (Nat.le_of_ble_eq_true rfl) (Nat.le_of_ble_eq_true rfl) (Nat.le_of_ble_eq_true rfl) rfl rfl (vnd_e rfl) rfl (vnd_e rfl) (dsj_e rfl) ?_
  rintro w rfl
  refine k_ws ((cO3_rrrrrrrr h0 xs xhn xht xhj xhm xhb xhs xhc) :: (cAI g xhnc 6 xhnf) :: (cAI g xhtc 4 xhtf) :: (cAI g xhjc 16 xhjf) :: (cAI g xhmc 12 xhmf) :: (cAI g xhbc 3 xhbf) :: (cAI g xhsc 18 xhsf) :: (cO8_iiri xhc 6 2 xhcc xhcn) :: (cAI g xhcc 12 xhcf) :: (cO7_rrrrii xs xr xm xw xp xmd2_9 xtr2_10) :: (cO8_iiri xr 8 3 xrc xrk_5) :: (cAI g xrc 24 xrg_1) :: (cO8_iiri xm 12 3 xmc xmk_6) :: (cAI g xmc 36 xmg_2) :: (cO8_iiri xw 6 3 xwc xwk_7) :: (cAI g xwc 18 xwg_3) :: (cO8_iiri xp 8 2 xpc xpk_8) :: (cAI g xpc 16 xpg_4) :: (cO8_iiri xhn 1 6 xhnc 0) :: (cO8_iiri xht 4 1 xhtc 0) :: (cO8_iiri xhj 8 2 xhjc 0) :: (cO8_iiri xhm 4 3 xhmc 0) :: (cO8_iiri xhb 1 3 xhbc 0) :: (cO8_iiri xhs 6 3 xhsc 0) :: []) rfl ?_
  refine k_aload_n X dX3_clear_k1.2.1.2 0 rfl ?_
  refine k_get (ci := 3) X inlX3 rfl 7 (nlt_e rfl) dX3_clear_k1.2.2.1 mw85 0 rfl rfl ?_
  refine k_callVV (n := 0) (As := []) (st := []) X [(cO8_iiri xhc 6 2 xhcc xhcn)] ((cO3_rrrrrrrr h0 xs xhn xht xhj xhm xhb xhs xhc) :: (cAI g xhnc 6 xhnf) :: (cAI g xhtc 4 xhtf) :: (cAI g xhjc 16 xhjf) :: (cAI g xhmc 12 xhmf) :: (cAI g xhbc 3 xhbf) :: (cAI g xhsc 18 xhsf) :: (cAI g xhcc 12 xhcf) :: (cO7_rrrrii xs xr xm xw xp xmd2_9 xtr2_10) :: (cO8_iiri xr 8 3 xrc xrk_5) :: (cAI g xrc 24 xrg_1) :: (cO8_iiri xm 12 3 xmc xmk_6) :: (cAI g xmc 36 xmg_2) :: (cO8_iiri xw 6 3 xwc xwk_7) :: (cAI g xwc 18 xwg_3) :: (cO8_iiri xp 8 2 xpc xpk_8) :: (cAI g xpc 16 xpg_4) :: (cO8_iiri xhn 1 6 xhnc 0) :: (cO8_iiri xht 4 1 xhtc 0) :: (cO8_iiri xhj 8 2 xhjc 0) :: (cO8_iiri xhm 4 3 xhmc 0) :: (cO8_iiri xhb 1 3 xhbc 0) :: (cO8_iiri xhs 6 3 xhsc 0) :: []) [7] [0, 1, 2, 3, 4, 5, 6, 8, 9, 10, 11, 12, 13, 14, 15, 16, 17, 18, 19, 20, 21, 22, 23] (t_clear l g xhc (.int 6) (.int 2) (.ref xhcc) xhcn) dX3_clear_k1.2.2.2.1 mw235 mw232 mw233 mw64 mw234 rfl 8 rfl rfl 0 _ rfl yk_yX8_clear_0 rfl (Nat.le_of_ble_eq_true rfl) (Nat.le_of_ble_eq_true rfl) (Nat.le_of_ble_eq_true rfl) (Nat.le_of_ble_eq_true rfl) (Nat.le_of_ble_eq_true rfl) rfl rfl (vnd_e rfl) rfl (vnd_e rfl) (dsj_e rfl) ?_
  rintro w rfl
  refine k_ws ((cO3_rrrrrrrr h0 xs xhn xht xhj xhm xhb xhs xhc) :: (cAI g xhnc 6 xhnf) :: (cAI g xhtc 4 xhtf) :: (cAI g xhjc 16 xhjf) :: (cAI g xhmc 12 xhmf) :: (cAI g xhbc 3 xhbf) :: (cAI g xhsc 18 xhsf) :: (cAI g xhcc 12 xhcf) :: (cO7_rrrrii xs xr xm xw xp xmd2_9 xtr2_10) :: (cO8_iiri xr 8 3 xrc xrk_5) :: (cAI g xrc 24 xrg_1) :: (cO8_iiri xm 12 3 xmc xmk_6) :: (cAI g xmc 36 xmg_2) :: (cO8_iiri xw 6 3 xwc xwk_7) :: (cAI g xwc 18 xwg_3) :: (cO8_iiri xp 8 2 xpc xpk_8) :: (cAI g xpc 16 xpg_4) :: (cO8_iiri xhn 1 6 xhnc 0) :: (cO8_iiri xht 4 1 xhtc 0) :: (cO8_iiri xhj 8 2 xhjc 0) :: (cO8_iiri xhm 4 3 xhmc 0) :: (cO8_iiri xhb 1 3 xhbc 0) :: (cO8_iiri xhs 6 3 xhsc 0) :: (cO8_iiri xhc 6 2 xhcc 0) :: []) rfl ?_
  exact k_vret X hr dX3_clear_k1.2.2.2.2 (Nat.le_of_ble_eq_true rfl) (Nat.le_of_ble_eq_true rfl) [0, 8, 9, 10, 11, 12, 13, 14, 15, 16, 17, 1, 18, 2, 19, 3, 20, 4, 21, 5, 22, 6, 23, 7] (vnd_e rfl) rfl rfl (exI12 xrg_1 xmg_2 xwg_3 xpg_4 xrk_5 xmk_6 xwk_7 xpk_8 xmd2_9 xtr2_10 xhnf xhtf (exI12 xhjf xhmf xhbf xhsf xhcf 0 0 0 0 0 0 0 ⟨(exI10 xrg_1 xmg_2 xwg_3 xpg_4 xrk_5 xmk_6 xwk_7 xpk_8 xmd2_9 xtr2_10 ⟨hq_12, ⟨rfl, rfl, rfl, rfl, rfl, rfl, rfl, rfl, rfl, rfl, rfl, rfl, rfl, rfl, rfl, rfl, rfl, rfl, rfl, rfl, rfl, rfl, rfl, rfl⟩⟩), rfl⟩))


set_option maxHeartbeats 4000000 in
set_option maxRecDepth 100000 in
theorem h_numberX (l : Launch) (g : Gx) (h0 : Nat) (p0 : Int32) (v0h0 : Value) (xhn : Nat) (v2h0 : Value) (v3h0 : Value) (v4h0 : Value) (v5h0 : Value) (v6h0 : Value) (v7h0 : Value) (xhnc : Nat) (xhnn : Int32) (xhnf : Nat → Int32) : cI l g yX3_number cX3_number 2 (some .int) 1 22 0 0 [.ref h0, .int p0] [(cO3_vrvvvvvv h0 v0h0 xhn v2h0 v3h0 v4h0 v5h0 v6h0 v7h0), (cO8_iiri xhn 1 6 xhnc xhnn), (cAI g xhnc 6 xhnf)] (fun r w => (R_h_numberX p0 xhnf r) ∧ w = [(cO3_vrvvvvvv h0 v0h0 xhn v2h0 v3h0 v4h0 v5h0 v6h0 v7h0), (cO8_iiri xhn 1 6 xhnc xhnn), (cAI g xhnc 6 xhnf)]) := by
  refine cI.of (by decide) (Nat.le_of_ble_eq_true rfl) ?_
  intro p e s m args below meth c A X hr hi
  refine k_lveq [(0, .ref h0), (1, .int p0)] rfl ?_
  refine k_aload_n X dX3_number_k0.1.1 0 rfl ?_
  refine k_get (ci := 3) X inlX3 rfl 1 (nlt_e rfl) dX3_number_k0.1.2.1 mw79 0 rfl rfl ?_
  refine k_iconst (v := 0) X dX3_number_k0.1.2.2 ic_0 ?_
  refine k_iload_n X dX3_number_k0.2.1 1 rfl ?_
  refine k_callVI (n := 2) (As := [.int 0, .int p0]) (st := []) X [(cO8_iiri xhn 1 6 xhnc xhnn), (cAI g xhnc 6 xhnf)] [(cO3_vrvvvvvv h0 v0h0 xhn v2h0 v3h0 v4h0 v5h0 v6h0 v7h0)] [1, 2] [0] (t_at l g xhn 0 p0 1 6 xhnc xhnn 6 xhnf (tbk_1_6)) dX3_number_k0.2.2.1 mw418 mw376 mw377 mw64 mw378 rfl 8 rfl rfl 0 _ rfl yk_yX8_at_2 rfl (Nat.le_of_ble_eq_true rfl) (Nat.le_of_ble_eq_true rfl) (Nat.le_of_ble_eq_true rfl) (Nat.le_of_ble_eq_true rfl) (Nat.le_of_ble_eq_true rfl) rfl rfl (vnd_e rfl) rfl (vnd_e rfl) (dsj_e rfl) ?_
  rintro r_1 w ⟨hr_2, rfl⟩
  refine k_ws [(cO3_vrvvvvvv h0 v0h0 xhn v2h0 v3h0 v4h0 v5h0 v6h0 v7h0), (cO8_iiri xhn 1 6 xhnc xhnn), (cAI g xhnc 6 xhnf)] rfl ?_
  exact k_iret X hr dX3_number_k0.2.2.2 (Nat.le_of_ble_eq_true rfl) (Nat.le_of_ble_eq_true rfl) [0, 1, 2] (vnd_e rfl) rfl rfl ⟨⟨r_1, hr_2, rfl⟩, rfl⟩


set_option maxHeartbeats 4000000 in
set_option maxRecDepth 100000 in
theorem t_copyFrom1_3X (l : Launch) (g : Gx) (h0 : Nat) (h1 : Nat) (h0c : Nat) (h0n : Int32) (h0f : Nat → Int32) (h1c : Nat) (h1n : Int32) (h1f : Nat → Int32) : cV l g yX8_copyFrom cX8_copyFrom 2 1 40 0 0 [.ref h0, .ref h1] [(cO8_iiri h0 1 3 h0c h0n), (cAI g h0c 3 h0f), (cO8_iiri h1 1 3 h1c h1n), (cAI g h1c 3 h1f)] (fun w => ∃ (h0g : Nat → Int32) (h0k : Int32), (R_t_copyFrom1_3X h0f h1n h1f h0g h0k) ∧ w = [(cO8_iiri h0 1 3 h0c h0k), (cAI g h0c 3 h0g), (cO8_iiri h1 1 3 h1c h1n), (cAI g h1c 3 h1f)]) := by
  refine cV.of (by decide) (Nat.le_of_ble_eq_true rfl) ?_
  intro p e s m args below meth c A X hr hi
  refine k_lveq [(0, .ref h0), (1, .ref h1)] rfl ?_
  refine k_aload_n X dX8_copyFrom_k0.1.1.1.1 1 rfl ?_
  refine k_ifnull X dX8_copyFrom_k0.1.1.1.2 ?_
  refine k_aload_n X dX8_copyFrom_k0.1.1.2.1 1 rfl ?_
  refine k_get (ci := 8) X inlX8 rfl 2 (nlt_e rfl) dX8_copyFrom_k0.1.1.2.2 mw108 2 rfl rfl ?_
  refine k_alen 3 1 X dX8_copyFrom_k0.1.2.1.1 3 rfl rfl (by show Int32.ofNat 3 = 3; decide) ?_
  refine k_aload_n X dX8_copyFrom_k0.1.2.1.2 0 rfl ?_
  refine k_get (ci := 8) X inlX8 rfl 2 (nlt_e rfl) dX8_copyFrom_k0.1.2.2.1 mw108 0 rfl rfl ?_
  refine k_alen 3 1 X dX8_copyFrom_k0.1.2.2.2 1 rfl rfl (by show Int32.ofNat 3 = 3; decide) ?_
  refine k_ic_eq 18 X dX8_copyFrom_k0.2.1.1.1 (jp_e rfl) (fun _ => ?_) (fun h_1 => absurd (by decide) h_1)
  refine k_aload_n X dX8_copyFrom_k0.2.1.1.2 1 rfl ?_
  refine k_get (ci := 8) X inlX8 rfl 2 (nlt_e rfl) dX8_copyFrom_k0.2.1.2.1 mw108 2 rfl rfl ?_
  refine k_iconst (v := 0) X dX8_copyFrom_k0.2.1.2.2 ic_0 ?_
  refine k_aload_n X dX8_copyFrom_k0.2.2.1.1 0 rfl ?_
  refine k_get (ci := 8) X inlX8 rfl 2 (nlt_e rfl) dX8_copyFrom_k0.2.2.1.2 mw108 0 rfl rfl ?_
  refine k_iconst (v := 0) X dX8_copyFrom_k0.2.2.2.1 ic_0 ?_
  refine k_aload_n X dX8_copyFrom_k0.2.2.2.2 0 rfl ?_
  refine k_get (ci := 8) X inlX8 rfl 2 (nlt_e rfl) dX8_copyFrom_k1.1.1.1 mw108 0 rfl rfl ?_
  refine k_alen 3 1 X dX8_copyFrom_k1.1.1.2 1 rfl rfl (by show Int32.ofNat 3 = 3; decide) ?_
  refine k_copyi [(cO8_iiri h0 1 3 h0c h0n), (cAI g h0c 3 (va_cpy h1f h0f (0 : Int32).toNatClampNeg (0 : Int32).toNatClampNeg (3 : Int32).toNatClampNeg)), (cO8_iiri h1 1 3 h1c h1n), (cAI g h1c 3 h1f)] X dX8_copyFrom_k1.1.2.1 mw450 mw451 mw452 mw453 3 1 rfl rfl (by decide) (by decide) (by decide) (by decide) (by decide) (Nat.le_of_ble_eq_true rfl) (Nat.le_of_ble_eq_true rfl) rfl ?_
  refine k_aload_n X dX8_copyFrom_k1.1.2.2 0 rfl ?_
  refine k_aload_n X dX8_copyFrom_k1.2.1.1 1 rfl ?_
  refine k_get (ci := 8) X inlX8 rfl 3 (nlt_e rfl) dX8_copyFrom_k1.2.1.2 mw100 2 rfl rfl ?_
  refine k_put (ci := 8) [(cO8_iiri h0 1 3 h0c h1n), (cAI g h0c 3 (va_cpy h1f h0f (0 : Int32).toNatClampNeg (0 : Int32).toNatClampNeg (3 : Int32).toNatClampNeg)), (cO8_iiri h1 1 3 h1c h1n), (cAI g h1c 3 h1f)] X inlX8 rfl tyX8_ok nmX8 3 (nlt_e rfl) rfl dX8_copyFrom_k1.2.2.1 mw100 0 rfl rfl rfl (Nat.le_of_ble_eq_true rfl) rfl ?_
  exact k_vret X hr dX8_copyFrom_k1.2.2.2 (Nat.le_of_ble_eq_true rfl) (Nat.le_of_ble_eq_true rfl) [0, 1, 2, 3] (vnd_e rfl) rfl rfl ⟨(va_cpy h1f h0f (0 : Int32).toNatClampNeg (0 : Int32).toNatClampNeg (3 : Int32).toNatClampNeg), h1n, ⟨rfl, rfl⟩, rfl⟩


set_option maxHeartbeats 4000000 in
set_option maxRecDepth 100000 in
theorem t_copyFrom1_6X (l : Launch) (g : Gx) (h0 : Nat) (h1 : Nat) (h0c : Nat) (h0n : Int32) (h0f : Nat → Int32) (h1c : Nat) (h1n : Int32) (h1f : Nat → Int32) : cV l g yX8_copyFrom cX8_copyFrom 2 1 40 0 0 [.ref h0, .ref h1] [(cO8_iiri h0 1 6 h0c h0n), (cAI g h0c 6 h0f), (cO8_iiri h1 1 6 h1c h1n), (cAI g h1c 6 h1f)] (fun w => ∃ (h0g : Nat → Int32) (h0k : Int32), (R_t_copyFrom1_6X h0f h1n h1f h0g h0k) ∧ w = [(cO8_iiri h0 1 6 h0c h0k), (cAI g h0c 6 h0g), (cO8_iiri h1 1 6 h1c h1n), (cAI g h1c 6 h1f)]) := by
  refine cV.of (by decide) (Nat.le_of_ble_eq_true rfl) ?_
  intro p e s m args below meth c A X hr hi
  refine k_lveq [(0, .ref h0), (1, .ref h1)] rfl ?_
  refine k_aload_n X dX8_copyFrom_k0.1.1.1.1 1 rfl ?_
  refine k_ifnull X dX8_copyFrom_k0.1.1.1.2 ?_
  refine k_aload_n X dX8_copyFrom_k0.1.1.2.1 1 rfl ?_
  refine k_get (ci := 8) X inlX8 rfl 2 (nlt_e rfl) dX8_copyFrom_k0.1.1.2.2 mw108 2 rfl rfl ?_
  refine k_alen 6 1 X dX8_copyFrom_k0.1.2.1.1 3 rfl rfl (by show Int32.ofNat 6 = 6; decide) ?_
  refine k_aload_n X dX8_copyFrom_k0.1.2.1.2 0 rfl ?_
  refine k_get (ci := 8) X inlX8 rfl 2 (nlt_e rfl) dX8_copyFrom_k0.1.2.2.1 mw108 0 rfl rfl ?_
  refine k_alen 6 1 X dX8_copyFrom_k0.1.2.2.2 1 rfl rfl (by show Int32.ofNat 6 = 6; decide) ?_
  refine k_ic_eq 18 X dX8_copyFrom_k0.2.1.1.1 (jp_e rfl) (fun _ => ?_) (fun h_1 => absurd (by decide) h_1)
  refine k_aload_n X dX8_copyFrom_k0.2.1.1.2 1 rfl ?_
  refine k_get (ci := 8) X inlX8 rfl 2 (nlt_e rfl) dX8_copyFrom_k0.2.1.2.1 mw108 2 rfl rfl ?_
  refine k_iconst (v := 0) X dX8_copyFrom_k0.2.1.2.2 ic_0 ?_
  refine k_aload_n X dX8_copyFrom_k0.2.2.1.1 0 rfl ?_
  refine k_get (ci := 8) X inlX8 rfl 2 (nlt_e rfl) dX8_copyFrom_k0.2.2.1.2 mw108 0 rfl rfl ?_
  refine k_iconst (v := 0) X dX8_copyFrom_k0.2.2.2.1 ic_0 ?_
  refine k_aload_n X dX8_copyFrom_k0.2.2.2.2 0 rfl ?_
  refine k_get (ci := 8) X inlX8 rfl 2 (nlt_e rfl) dX8_copyFrom_k1.1.1.1 mw108 0 rfl rfl ?_
  refine k_alen 6 1 X dX8_copyFrom_k1.1.1.2 1 rfl rfl (by show Int32.ofNat 6 = 6; decide) ?_
  refine k_copyi [(cO8_iiri h0 1 6 h0c h0n), (cAI g h0c 6 (va_cpy h1f h0f (0 : Int32).toNatClampNeg (0 : Int32).toNatClampNeg (6 : Int32).toNatClampNeg)), (cO8_iiri h1 1 6 h1c h1n), (cAI g h1c 6 h1f)] X dX8_copyFrom_k1.1.2.1 mw450 mw451 mw452 mw453 3 1 rfl rfl (by decide) (by decide) (by decide) (by decide) (by decide) (Nat.le_of_ble_eq_true rfl) (Nat.le_of_ble_eq_true rfl) rfl ?_
  refine k_aload_n X dX8_copyFrom_k1.1.2.2 0 rfl ?_
  refine k_aload_n X dX8_copyFrom_k1.2.1.1 1 rfl ?_
  refine k_get (ci := 8) X inlX8 rfl 3 (nlt_e rfl) dX8_copyFrom_k1.2.1.2 mw100 2 rfl rfl ?_
  refine k_put (ci := 8) [(cO8_iiri h0 1 6 h0c h1n), (cAI g h0c 6 (va_cpy h1f h0f (0 : Int32).toNatClampNeg (0 : Int32).toNatClampNeg (6 : Int32).toNatClampNeg)), (cO8_iiri h1 1 6 h1c h1n), (cAI g h1c 6 h1f)] X inlX8 rfl tyX8_ok nmX8 3 (nlt_e rfl) rfl dX8_copyFrom_k1.2.2.1 mw100 0 rfl rfl rfl (Nat.le_of_ble_eq_true rfl) rfl ?_
  exact k_vret X hr dX8_copyFrom_k1.2.2.2 (Nat.le_of_ble_eq_true rfl) (Nat.le_of_ble_eq_true rfl) [0, 1, 2, 3] (vnd_e rfl) rfl rfl ⟨(va_cpy h1f h0f (0 : Int32).toNatClampNeg (0 : Int32).toNatClampNeg (6 : Int32).toNatClampNeg), h1n, ⟨rfl, rfl⟩, rfl⟩


set_option maxHeartbeats 4000000 in
set_option maxRecDepth 100000 in
theorem t_copyFrom4_1X (l : Launch) (g : Gx) (h0 : Nat) (h1 : Nat) (h0c : Nat) (h0n : Int32) (h0f : Nat → Int32) (h1c : Nat) (h1n : Int32) (h1f : Nat → Int32) : cV l g yX8_copyFrom cX8_copyFrom 2 1 40 0 0 [.ref h0, .ref h1] [(cO8_iiri h0 4 1 h0c h0n), (cAI g h0c 4 h0f), (cO8_iiri h1 4 1 h1c h1n), (cAI g h1c 4 h1f)] (fun w => ∃ (h0g : Nat → Int32) (h0k : Int32), (R_t_copyFrom4_1X h0f h1n h1f h0g h0k) ∧ w = [(cO8_iiri h0 4 1 h0c h0k), (cAI g h0c 4 h0g), (cO8_iiri h1 4 1 h1c h1n), (cAI g h1c 4 h1f)]) := by
  refine cV.of (by decide) (Nat.le_of_ble_eq_true rfl) ?_
  intro p e s m args below meth c A X hr hi
  refine k_lveq [(0, .ref h0), (1, .ref h1)] rfl ?_
  refine k_aload_n X dX8_copyFrom_k0.1.1.1.1 1 rfl ?_
  refine k_ifnull X dX8_copyFrom_k0.1.1.1.2 ?_
  refine k_aload_n X dX8_copyFrom_k0.1.1.2.1 1 rfl ?_
  refine k_get (ci := 8) X inlX8 rfl 2 (nlt_e rfl) dX8_copyFrom_k0.1.1.2.2 mw108 2 rfl rfl ?_
  refine k_alen 4 1 X dX8_copyFrom_k0.1.2.1.1 3 rfl rfl (by show Int32.ofNat 4 = 4; decide) ?_
  refine k_aload_n X dX8_copyFrom_k0.1.2.1.2 0 rfl ?_
  refine k_get (ci := 8) X inlX8 rfl 2 (nlt_e rfl) dX8_copyFrom_k0.1.2.2.1 mw108 0 rfl rfl ?_
  refine k_alen 4 1 X dX8_copyFrom_k0.1.2.2.2 1 rfl rfl (by show Int32.ofNat 4 = 4; decide) ?_
  refine k_ic_eq 18 X dX8_copyFrom_k0.2.1.1.1 (jp_e rfl) (fun _ => ?_) (fun h_1 => absurd (by decide) h_1)
  refine k_aload_n X dX8_copyFrom_k0.2.1.1.2 1 rfl ?_
  refine k_get (ci := 8) X inlX8 rfl 2 (nlt_e rfl) dX8_copyFrom_k0.2.1.2.1 mw108 2 rfl rfl ?_
  refine k_iconst (v := 0) X dX8_copyFrom_k0.2.1.2.2 ic_0 ?_
  refine k_aload_n X dX8_copyFrom_k0.2.2.1.1 0 rfl ?_
  refine k_get (ci := 8) X inlX8 rfl 2 (nlt_e rfl) dX8_copyFrom_k0.2.2.1.2 mw108 0 rfl rfl ?_
  refine k_iconst (v := 0) X dX8_copyFrom_k0.2.2.2.1 ic_0 ?_
  refine k_aload_n X dX8_copyFrom_k0.2.2.2.2 0 rfl ?_
  refine k_get (ci := 8) X inlX8 rfl 2 (nlt_e rfl) dX8_copyFrom_k1.1.1.1 mw108 0 rfl rfl ?_
  refine k_alen 4 1 X dX8_copyFrom_k1.1.1.2 1 rfl rfl (by show Int32.ofNat 4 = 4; decide) ?_
  refine k_copyi [(cO8_iiri h0 4 1 h0c h0n), (cAI g h0c 4 (va_cpy h1f h0f (0 : Int32).toNatClampNeg (0 : Int32).toNatClampNeg (4 : Int32).toNatClampNeg)), (cO8_iiri h1 4 1 h1c h1n), (cAI g h1c 4 h1f)] X dX8_copyFrom_k1.1.2.1 mw450 mw451 mw452 mw453 3 1 rfl rfl (by decide) (by decide) (by decide) (by decide) (by decide) (Nat.le_of_ble_eq_true rfl) (Nat.le_of_ble_eq_true rfl) rfl ?_
  refine k_aload_n X dX8_copyFrom_k1.1.2.2 0 rfl ?_
  refine k_aload_n X dX8_copyFrom_k1.2.1.1 1 rfl ?_
  refine k_get (ci := 8) X inlX8 rfl 3 (nlt_e rfl) dX8_copyFrom_k1.2.1.2 mw100 2 rfl rfl ?_
  refine k_put (ci := 8) [(cO8_iiri h0 4 1 h0c h1n), (cAI g h0c 4 (va_cpy h1f h0f (0 : Int32).toNatClampNeg (0 : Int32).toNatClampNeg (4 : Int32).toNatClampNeg)), (cO8_iiri h1 4 1 h1c h1n), (cAI g h1c 4 h1f)] X inlX8 rfl tyX8_ok nmX8 3 (nlt_e rfl) rfl dX8_copyFrom_k1.2.2.1 mw100 0 rfl rfl rfl (Nat.le_of_ble_eq_true rfl) rfl ?_
  exact k_vret X hr dX8_copyFrom_k1.2.2.2 (Nat.le_of_ble_eq_true rfl) (Nat.le_of_ble_eq_true rfl) [0, 1, 2, 3] (vnd_e rfl) rfl rfl ⟨(va_cpy h1f h0f (0 : Int32).toNatClampNeg (0 : Int32).toNatClampNeg (4 : Int32).toNatClampNeg), h1n, ⟨rfl, rfl⟩, rfl⟩


set_option maxHeartbeats 4000000 in
set_option maxRecDepth 100000 in
theorem t_copyFrom4_3X (l : Launch) (g : Gx) (h0 : Nat) (h1 : Nat) (h0c : Nat) (h0n : Int32) (h0f : Nat → Int32) (h1c : Nat) (h1n : Int32) (h1f : Nat → Int32) : cV l g yX8_copyFrom cX8_copyFrom 2 1 40 0 0 [.ref h0, .ref h1] [(cO8_iiri h0 4 3 h0c h0n), (cAI g h0c 12 h0f), (cO8_iiri h1 4 3 h1c h1n), (cAI g h1c 12 h1f)] (fun w => ∃ (h0g : Nat → Int32) (h0k : Int32), (R_t_copyFrom4_3X h0f h1n h1f h0g h0k) ∧ w = [(cO8_iiri h0 4 3 h0c h0k), (cAI g h0c 12 h0g), (cO8_iiri h1 4 3 h1c h1n), (cAI g h1c 12 h1f)]) := by
  refine cV.of (by decide) (Nat.le_of_ble_eq_true rfl) ?_
  intro p e s m args below meth c A X hr hi
  refine k_lveq [(0, .ref h0), (1, .ref h1)] rfl ?_
  refine k_aload_n X dX8_copyFrom_k0.1.1.1.1 1 rfl ?_
  refine k_ifnull X dX8_copyFrom_k0.1.1.1.2 ?_
  refine k_aload_n X dX8_copyFrom_k0.1.1.2.1 1 rfl ?_
  refine k_get (ci := 8) X inlX8 rfl 2 (nlt_e rfl) dX8_copyFrom_k0.1.1.2.2 mw108 2 rfl rfl ?_
  refine k_alen 12 1 X dX8_copyFrom_k0.1.2.1.1 3 rfl rfl (by show Int32.ofNat 12 = 12; decide) ?_
  refine k_aload_n X dX8_copyFrom_k0.1.2.1.2 0 rfl ?_
  refine k_get (ci := 8) X inlX8 rfl 2 (nlt_e rfl) dX8_copyFrom_k0.1.2.2.1 mw108 0 rfl rfl ?_
  refine k_alen 12 1 X dX8_copyFrom_k0.1.2.2.2 1 rfl rfl (by show Int32.ofNat 12 = 12; decide) ?_
  refine k_ic_eq 18 X dX8_copyFrom_k0.2.1.1.1 (jp_e rfl) (fun _ => ?_) (fun h_1 => absurd (by decide) h_1)
  refine k_aload_n X dX8_copyFrom_k0.2.1.1.2 1 rfl ?_
  refine k_get (ci := 8) X inlX8 rfl 2 (nlt_e rfl) dX8_copyFrom_k0.2.1.2.1 mw108 2 rfl rfl ?_
  refine k_iconst (v := 0) X dX8_copyFrom_k0.2.1.2.2 ic_0 ?_
  refine k_aload_n X dX8_copyFrom_k0.2.2.1.1 0 rfl ?_
  refine k_get (ci := 8) X inlX8 rfl 2 (nlt_e rfl) dX8_copyFrom_k0.2.2.1.2 mw108 0 rfl rfl ?_
  refine k_iconst (v := 0) X dX8_copyFrom_k0.2.2.2.1 ic_0 ?_
  refine k_aload_n X dX8_copyFrom_k0.2.2.2.2 0 rfl ?_
  refine k_get (ci := 8) X inlX8 rfl 2 (nlt_e rfl) dX8_copyFrom_k1.1.1.1 mw108 0 rfl rfl ?_
  refine k_alen 12 1 X dX8_copyFrom_k1.1.1.2 1 rfl rfl (by show Int32.ofNat 12 = 12; decide) ?_
  refine k_copyi [(cO8_iiri h0 4 3 h0c h0n), (cAI g h0c 12 (va_cpy h1f h0f (0 : Int32).toNatClampNeg (0 : Int32).toNatClampNeg (12 : Int32).toNatClampNeg)), (cO8_iiri h1 4 3 h1c h1n), (cAI g h1c 12 h1f)] X dX8_copyFrom_k1.1.2.1 mw450 mw451 mw452 mw453 3 1 rfl rfl (by decide) (by decide) (by decide) (by decide) (by decide) (Nat.le_of_ble_eq_true rfl) (Nat.le_of_ble_eq_true rfl) rfl ?_
  refine k_aload_n X dX8_copyFrom_k1.1.2.2 0 rfl ?_
  refine k_aload_n X dX8_copyFrom_k1.2.1.1 1 rfl ?_
  refine k_get (ci := 8) X inlX8 rfl 3 (nlt_e rfl) dX8_copyFrom_k1.2.1.2 mw100 2 rfl rfl ?_
  refine k_put (ci := 8) [(cO8_iiri h0 4 3 h0c h1n), (cAI g h0c 12 (va_cpy h1f h0f (0 : Int32).toNatClampNeg (0 : Int32).toNatClampNeg (12 : Int32).toNatClampNeg)), (cO8_iiri h1 4 3 h1c h1n), (cAI g h1c 12 h1f)] X inlX8 rfl tyX8_ok nmX8 3 (nlt_e rfl) rfl dX8_copyFrom_k1.2.2.1 mw100 0 rfl rfl rfl (Nat.le_of_ble_eq_true rfl) rfl ?_
  exact k_vret X hr dX8_copyFrom_k1.2.2.2 (Nat.le_of_ble_eq_true rfl) (Nat.le_of_ble_eq_true rfl) [0, 1, 2, 3] (vnd_e rfl) rfl rfl ⟨(va_cpy h1f h0f (0 : Int32).toNatClampNeg (0 : Int32).toNatClampNeg (12 : Int32).toNatClampNeg), h1n, ⟨rfl, rfl⟩, rfl⟩


set_option maxHeartbeats 4000000 in
set_option maxRecDepth 100000 in
theorem t_copyFrom6_2X (l : Launch) (g : Gx) (h0 : Nat) (h1 : Nat) (h0c : Nat) (h0n : Int32) (h0f : Nat → Int32) (h1c : Nat) (h1n : Int32) (h1f : Nat → Int32) : cV l g yX8_copyFrom cX8_copyFrom 2 1 40 0 0 [.ref h0, .ref h1] [(cO8_iiri h0 6 2 h0c h0n), (cAI g h0c 12 h0f), (cO8_iiri h1 6 2 h1c h1n), (cAI g h1c 12 h1f)] (fun w => ∃ (h0g : Nat → Int32) (h0k : Int32), (R_t_copyFrom6_2X h0f h1n h1f h0g h0k) ∧ w = [(cO8_iiri h0 6 2 h0c h0k), (cAI g h0c 12 h0g), (cO8_iiri h1 6 2 h1c h1n), (cAI g h1c 12 h1f)]) := by
  refine cV.of (by decide) (Nat.le_of_ble_eq_true rfl) ?_
  intro p e s m args below meth c A X hr hi
  refine k_lveq [(0, .ref h0), (1, .ref h1)] rfl ?_
  refine k_aload_n X dX8_copyFrom_k0.1.1.1.1 1 rfl ?_
  refine k_ifnull X dX8_copyFrom_k0.1.1.1.2 ?_
  refine k_aload_n X dX8_copyFrom_k0.1.1.2.1 1 rfl ?_
  refine k_get (ci := 8) X inlX8 rfl 2 (nlt_e rfl) dX8_copyFrom_k0.1.1.2.2 mw108 2 rfl rfl ?_
  refine k_alen 12 1 X dX8_copyFrom_k0.1.2.1.1 3 rfl rfl (by show Int32.ofNat 12 = 12; decide) ?_
  refine k_aload_n X dX8_copyFrom_k0.1.2.1.2 0 rfl ?_
  refine k_get (ci := 8) X inlX8 rfl 2 (nlt_e rfl) dX8_copyFrom_k0.1.2.2.1 mw108 0 rfl rfl ?_
  refine k_alen 12 1 X dX8_copyFrom_k0.1.2.2.2 1 rfl rfl (by show Int32.ofNat 12 = 12; decide) ?_
  refine k_ic_eq 18 X dX8_copyFrom_k0.2.1.1.1 (jp_e rfl) (fun _ => ?_) (fun h_1 => absurd (by decide) h_1)
  refine k_aload_n X dX8_copyFrom_k0.2.1.1.2 1 rfl ?_
  refine k_get (ci := 8) X inlX8 rfl 2 (nlt_e rfl) dX8_copyFrom_k0.2.1.2.1 mw108 2 rfl rfl ?_
  refine k_iconst (v := 0) X dX8_copyFrom_k0.2.1.2.2 ic_0 ?_
  refine k_aload_n X dX8_copyFrom_k0.2.2.1.1 0 rfl ?_
  refine k_get (ci := 8) X inlX8 rfl 2 (nlt_e rfl) dX8_copyFrom_k0.2.2.1.2 mw108 0 rfl rfl ?_
  refine k_iconst (v := 0) X dX8_copyFrom_k0.2.2.2.1 ic_0 ?_
  refine k_aload_n X dX8_copyFrom_k0.2.2.2.2 0 rfl ?_
  refine k_get (ci := 8) X inlX8 rfl 2 (nlt_e rfl) dX8_copyFrom_k1.1.1.1 mw108 0 rfl rfl ?_
  refine k_alen 12 1 X dX8_copyFrom_k1.1.1.2 1 rfl rfl (by show Int32.ofNat 12 = 12; decide) ?_
  refine k_copyi [(cO8_iiri h0 6 2 h0c h0n), (cAI g h0c 12 (va_cpy h1f h0f (0 : Int32).toNatClampNeg (0 : Int32).toNatClampNeg (12 : Int32).toNatClampNeg)), (cO8_iiri h1 6 2 h1c h1n), (cAI g h1c 12 h1f)] X dX8_copyFrom_k1.1.2.1 mw450 mw451 mw452 mw453 3 1 rfl rfl (by decide) (by decide) (by decide) (by decide) (by decide) (Nat.le_of_ble_eq_true rfl) (Nat.le_of_ble_eq_true rfl) rfl ?_
  refine k_aload_n X dX8_copyFrom_k1.1.2.2 0 rfl ?_
  refine k_aload_n X dX8_copyFrom_k1.2.1.1 1 rfl ?_
  refine k_get (ci := 8) X inlX8 rfl 3 (nlt_e rfl) dX8_copyFrom_k1.2.1.2 mw100 2 rfl rfl ?_
  refine k_put (ci := 8) [(cO8_iiri h0 6 2 h0c h1n), (cAI g h0c 12 (va_cpy h1f h0f (0 : Int32).toNatClampNeg (0 : Int32).toNatClampNeg (12 : Int32).toNatClampNeg)), (cO8_iiri h1 6 2 h1c h1n), (cAI g h1c 12 h1f)] X inlX8 rfl tyX8_ok nmX8 3 (nlt_e rfl) rfl dX8_copyFrom_k1.2.2.1 mw100 0 rfl rfl rfl (Nat.le_of_ble_eq_true rfl) rfl ?_
  exact k_vret X hr dX8_copyFrom_k1.2.2.2 (Nat.le_of_ble_eq_true rfl) (Nat.le_of_ble_eq_true rfl) [0, 1, 2, 3] (vnd_e rfl) rfl rfl ⟨(va_cpy h1f h0f (0 : Int32).toNatClampNeg (0 : Int32).toNatClampNeg (12 : Int32).toNatClampNeg), h1n, ⟨rfl, rfl⟩, rfl⟩


set_option maxHeartbeats 4000000 in
set_option maxRecDepth 100000 in
theorem t_copyFrom6_3X (l : Launch) (g : Gx) (h0 : Nat) (h1 : Nat) (h0c : Nat) (h0n : Int32) (h0f : Nat → Int32) (h1c : Nat) (h1n : Int32) (h1f : Nat → Int32) : cV l g yX8_copyFrom cX8_copyFrom 2 1 40 0 0 [.ref h0, .ref h1] [(cO8_iiri h0 6 3 h0c h0n), (cAI g h0c 18 h0f), (cO8_iiri h1 6 3 h1c h1n), (cAI g h1c 18 h1f)] (fun w => ∃ (h0g : Nat → Int32) (h0k : Int32), (R_t_copyFrom6_3X h0f h1n h1f h0g h0k) ∧ w = [(cO8_iiri h0 6 3 h0c h0k), (cAI g h0c 18 h0g), (cO8_iiri h1 6 3 h1c h1n), (cAI g h1c 18 h1f)]) := by
  refine cV.of (by decide) (Nat.le_of_ble_eq_true rfl) ?_
  intro p e s m args below meth c A X hr hi
  refine k_lveq [(0, .ref h0), (1, .ref h1)] rfl ?_
  refine k_aload_n X dX8_copyFrom_k0.1.1.1.1 1 rfl ?_
  refine k_ifnull X dX8_copyFrom_k0.1.1.1.2 ?_
  refine k_aload_n X dX8_copyFrom_k0.1.1.2.1 1 rfl ?_
  refine k_get (ci := 8) X inlX8 rfl 2 (nlt_e rfl) dX8_copyFrom_k0.1.1.2.2 mw108 2 rfl rfl ?_
  refine k_alen 18 1 X dX8_copyFrom_k0.1.2.1.1 3 rfl rfl (by show Int32.ofNat 18 = 18; decide) ?_
  refine k_aload_n X dX8_copyFrom_k0.1.2.1.2 0 rfl ?_
  refine k_get (ci := 8) X inlX8 rfl 2 (nlt_e rfl) dX8_copyFrom_k0.1.2.2.1 mw108 0 rfl rfl ?_
  refine k_alen 18 1 X dX8_copyFrom_k0.1.2.2.2 1 rfl rfl (by show Int32.ofNat 18 = 18; decide) ?_
  refine k_ic_eq 18 X dX8_copyFrom_k0.2.1.1.1 (jp_e rfl) (fun _ => ?_) (fun h_1 => absurd (by decide) h_1)
  refine k_aload_n X dX8_copyFrom_k0.2.1.1.2 1 rfl ?_
  refine k_get (ci := 8) X inlX8 rfl 2 (nlt_e rfl) dX8_copyFrom_k0.2.1.2.1 mw108 2 rfl rfl ?_
  refine k_iconst (v := 0) X dX8_copyFrom_k0.2.1.2.2 ic_0 ?_
  refine k_aload_n X dX8_copyFrom_k0.2.2.1.1 0 rfl ?_
  refine k_get (ci := 8) X inlX8 rfl 2 (nlt_e rfl) dX8_copyFrom_k0.2.2.1.2 mw108 0 rfl rfl ?_
  refine k_iconst (v := 0) X dX8_copyFrom_k0.2.2.2.1 ic_0 ?_
  refine k_aload_n X dX8_copyFrom_k0.2.2.2.2 0 rfl ?_
  refine k_get (ci := 8) X inlX8 rfl 2 (nlt_e rfl) dX8_copyFrom_k1.1.1.1 mw108 0 rfl rfl ?_
  refine k_alen 18 1 X dX8_copyFrom_k1.1.1.2 1 rfl rfl (by show Int32.ofNat 18 = 18; decide) ?_
  refine k_copyi [(cO8_iiri h0 6 3 h0c h0n), (cAI g h0c 18 (va_cpy h1f h0f (0 : Int32).toNatClampNeg (0 : Int32).toNatClampNeg (18 : Int32).toNatClampNeg)), (cO8_iiri h1 6 3 h1c h1n), (cAI g h1c 18 h1f)] X dX8_copyFrom_k1.1.2.1 mw450 mw451 mw452 mw453 3 1 rfl rfl (by decide) (by decide) (by decide) (by decide) (by decide) (Nat.le_of_ble_eq_true rfl) (Nat.le_of_ble_eq_true rfl) rfl ?_
  refine k_aload_n X dX8_copyFrom_k1.1.2.2 0 rfl ?_
  refine k_aload_n X dX8_copyFrom_k1.2.1.1 1 rfl ?_
  refine k_get (ci := 8) X inlX8 rfl 3 (nlt_e rfl) dX8_copyFrom_k1.2.1.2 mw100 2 rfl rfl ?_
  refine k_put (ci := 8) [(cO8_iiri h0 6 3 h0c h1n), (cAI g h0c 18 (va_cpy h1f h0f (0 : Int32).toNatClampNeg (0 : Int32).toNatClampNeg (18 : Int32).toNatClampNeg)), (cO8_iiri h1 6 3 h1c h1n), (cAI g h1c 18 h1f)] X inlX8 rfl tyX8_ok nmX8 3 (nlt_e rfl) rfl dX8_copyFrom_k1.2.2.1 mw100 0 rfl rfl rfl (Nat.le_of_ble_eq_true rfl) rfl ?_
  exact k_vret X hr dX8_copyFrom_k1.2.2.2 (Nat.le_of_ble_eq_true rfl) (Nat.le_of_ble_eq_true rfl) [0, 1, 2, 3] (vnd_e rfl) rfl rfl ⟨(va_cpy h1f h0f (0 : Int32).toNatClampNeg (0 : Int32).toNatClampNeg (18 : Int32).toNatClampNeg), h1n, ⟨rfl, rfl⟩, rfl⟩


set_option maxHeartbeats 4000000 in
set_option maxRecDepth 100000 in
theorem t_copyFrom8_2X (l : Launch) (g : Gx) (h0 : Nat) (h1 : Nat) (h0c : Nat) (h0n : Int32) (h0f : Nat → Int32) (h1c : Nat) (h1n : Int32) (h1f : Nat → Int32) : cV l g yX8_copyFrom cX8_copyFrom 2 1 40 0 0 [.ref h0, .ref h1] [(cO8_iiri h0 8 2 h0c h0n), (cAI g h0c 16 h0f), (cO8_iiri h1 8 2 h1c h1n), (cAI g h1c 16 h1f)] (fun w => ∃ (h0g : Nat → Int32) (h0k : Int32), (R_t_copyFrom8_2X h0f h1n h1f h0g h0k) ∧ w = [(cO8_iiri h0 8 2 h0c h0k), (cAI g h0c 16 h0g), (cO8_iiri h1 8 2 h1c h1n), (cAI g h1c 16 h1f)]) := by
  refine cV.of (by decide) (Nat.le_of_ble_eq_true rfl) ?_
  intro p e s m args below meth c A X hr hi
  refine k_lveq [(0, .ref h0), (1, .ref h1)] rfl ?_
  refine k_aload_n X dX8_copyFrom_k0.1.1.1.1 1 rfl ?_
  refine k_ifnull X dX8_copyFrom_k0.1.1.1.2 ?_
  refine k_aload_n X dX8_copyFrom_k0.1.1.2.1 1 rfl ?_
  refine k_get (ci := 8) X inlX8 rfl 2 (nlt_e rfl) dX8_copyFrom_k0.1.1.2.2 mw108 2 rfl rfl ?_
  refine k_alen 16 1 X dX8_copyFrom_k0.1.2.1.1 3 rfl rfl (by show Int32.ofNat 16 = 16; decide) ?_
  refine k_aload_n X dX8_copyFrom_k0.1.2.1.2 0 rfl ?_
  refine k_get (ci := 8) X inlX8 rfl 2 (nlt_e rfl) dX8_copyFrom_k0.1.2.2.1 mw108 0 rfl rfl ?_
  refine k_alen 16 1 X dX8_copyFrom_k0.1.2.2.2 1 rfl rfl (by show Int32.ofNat 16 = 16; decide) ?_
  refine k_ic_eq 18 X dX8_copyFrom_k0.2.1.1.1 (jp_e rfl) (fun _ => ?_) (fun h_1 => absurd (by decide) h_1)
  refine k_aload_n X dX8_copyFrom_k0.2.1.1.2 1 rfl ?_
  refine k_get (ci := 8) X inlX8 rfl 2 (nlt_e rfl) dX8_copyFrom_k0.2.1.2.1 mw108 2 rfl rfl ?_
  refine k_iconst (v := 0) X dX8_copyFrom_k0.2.1.2.2 ic_0 ?_
  refine k_aload_n X dX8_copyFrom_k0.2.2.1.1 0 rfl ?_
  refine k_get (ci := 8) X inlX8 rfl 2 (nlt_e rfl) dX8_copyFrom_k0.2.2.1.2 mw108 0 rfl rfl ?_
  refine k_iconst (v := 0) X dX8_copyFrom_k0.2.2.2.1 ic_0 ?_
  refine k_aload_n X dX8_copyFrom_k0.2.2.2.2 0 rfl ?_
  refine k_get (ci := 8) X inlX8 rfl 2 (nlt_e rfl) dX8_copyFrom_k1.1.1.1 mw108 0 rfl rfl ?_
  refine k_alen 16 1 X dX8_copyFrom_k1.1.1.2 1 rfl rfl (by show Int32.ofNat 16 = 16; decide) ?_
  refine k_copyi [(cO8_iiri h0 8 2 h0c h0n), (cAI g h0c 16 (va_cpy h1f h0f (0 : Int32).toNatClampNeg (0 : Int32).toNatClampNeg (16 : Int32).toNatClampNeg)), (cO8_iiri h1 8 2 h1c h1n), (cAI g h1c 16 h1f)] X dX8_copyFrom_k1.1.2.1 mw450 mw451 mw452 mw453 3 1 rfl rfl (by decide) (by decide) (by decide) (by decide) (by decide) (Nat.le_of_ble_eq_true rfl) (Nat.le_of_ble_eq_true rfl) rfl ?_
  refine k_aload_n X dX8_copyFrom_k1.1.2.2 0 rfl ?_
  refine k_aload_n X dX8_copyFrom_k1.2.1.1 1 rfl ?_
  refine k_get (ci := 8) X inlX8 rfl 3 (nlt_e rfl) dX8_copyFrom_k1.2.1.2 mw100 2 rfl rfl ?_
  refine k_put (ci := 8) [(cO8_iiri h0 8 2 h0c h1n), (cAI g h0c 16 (va_cpy h1f h0f (0 : Int32).toNatClampNeg (0 : Int32).toNatClampNeg (16 : Int32).toNatClampNeg)), (cO8_iiri h1 8 2 h1c h1n), (cAI g h1c 16 h1f)] X inlX8 rfl tyX8_ok nmX8 3 (nlt_e rfl) rfl dX8_copyFrom_k1.2.2.1 mw100 0 rfl rfl rfl (Nat.le_of_ble_eq_true rfl) rfl ?_
  exact k_vret X hr dX8_copyFrom_k1.2.2.2 (Nat.le_of_ble_eq_true rfl) (Nat.le_of_ble_eq_true rfl) [0, 1, 2, 3] (vnd_e rfl) rfl rfl ⟨(va_cpy h1f h0f (0 : Int32).toNatClampNeg (0 : Int32).toNatClampNeg (16 : Int32).toNatClampNeg), h1n, ⟨rfl, rfl⟩, rfl⟩


set_option maxHeartbeats 4000000 in
set_option maxRecDepth 100000 in
theorem t_copyFrom8_3X (l : Launch) (g : Gx) (h0 : Nat) (h1 : Nat) (h0c : Nat) (h0n : Int32) (h0f : Nat → Int32) (h1c : Nat) (h1n : Int32) (h1f : Nat → Int32) : cV l g yX8_copyFrom cX8_copyFrom 2 1 40 0 0 [.ref h0, .ref h1] [(cO8_iiri h0 8 3 h0c h0n), (cAI g h0c 24 h0f), (cO8_iiri h1 8 3 h1c h1n), (cAI g h1c 24 h1f)] (fun w => ∃ (h0g : Nat → Int32) (h0k : Int32), (R_t_copyFrom8_3X h0f h1n h1f h0g h0k) ∧ w = [(cO8_iiri h0 8 3 h0c h0k), (cAI g h0c 24 h0g), (cO8_iiri h1 8 3 h1c h1n), (cAI g h1c 24 h1f)]) := by
  refine cV.of (by decide) (Nat.le_of_ble_eq_true rfl) ?_
  intro p e s m args below meth c A X hr hi
  refine k_lveq [(0, .ref h0), (1, .ref h1)] rfl ?_
  refine k_aload_n X dX8_copyFrom_k0.1.1.1.1 1 rfl ?_
  refine k_ifnull X dX8_copyFrom_k0.1.1.1.2 ?_
  refine k_aload_n X dX8_copyFrom_k0.1.1.2.1 1 rfl ?_
  refine k_get (ci := 8) X inlX8 rfl 2 (nlt_e rfl) dX8_copyFrom_k0.1.1.2.2 mw108 2 rfl rfl ?_
  refine k_alen 24 1 X dX8_copyFrom_k0.1.2.1.1 3 rfl rfl (by show Int32.ofNat 24 = 24; decide) ?_
  refine k_aload_n X dX8_copyFrom_k0.1.2.1.2 0 rfl ?_
  refine k_get (ci := 8) X inlX8 rfl 2 (nlt_e rfl) dX8_copyFrom_k0.1.2.2.1 mw108 0 rfl rfl ?_
  refine k_alen 24 1 X dX8_copyFrom_k0.1.2.2.2 1 rfl rfl (by show Int32.ofNat 24 = 24; decide) ?_
  refine k_ic_eq 18 X dX8_copyFrom_k0.2.1.1.1 (jp_e rfl) (fun _ => ?_) (fun h_1 => absurd (by decide) h_1)
  refine k_aload_n X dX8_copyFrom_k0.2.1.1.2 1 rfl ?_
  refine k_get (ci := 8) X inlX8 rfl 2 (nlt_e rfl) dX8_copyFrom_k0.2.1.2.1 mw108 2 rfl rfl ?_
  refine k_iconst (v := 0) X dX8_copyFrom_k0.2.1.2.2 ic_0 ?_
  refine k_aload_n X dX8_copyFrom_k0.2.2.1.1 0 rfl ?_
  refine k_get (ci := 8) X inlX8 rfl 2 (nlt_e rfl) dX8_copyFrom_k0.2.2.1.2 mw108 0 rfl rfl ?_
  refine k_iconst (v := 0) X dX8_copyFrom_k0.2.2.2.1 ic_0 ?_
  refine k_aload_n X dX8_copyFrom_k0.2.2.2.2 0 rfl ?_
  refine k_get (ci := 8) X inlX8 rfl 2 (nlt_e rfl) dX8_copyFrom_k1.1.1.1 mw108 0 rfl rfl ?_
  refine k_alen 24 1 X dX8_copyFrom_k1.1.1.2 1 rfl rfl (by show Int32.ofNat 24 = 24; decide) ?_
  refine k_copyi [(cO8_iiri h0 8 3 h0c h0n), (cAI g h0c 24 (va_cpy h1f h0f (0 : Int32).toNatClampNeg (0 : Int32).toNatClampNeg (24 : Int32).toNatClampNeg)), (cO8_iiri h1 8 3 h1c h1n), (cAI g h1c 24 h1f)] X dX8_copyFrom_k1.1.2.1 mw450 mw451 mw452 mw453 3 1 rfl rfl (by decide) (by decide) (by decide) (by decide) (by decide) (Nat.le_of_ble_eq_true rfl) (Nat.le_of_ble_eq_true rfl) rfl ?_
  refine k_aload_n X dX8_copyFrom_k1.1.2.2 0 rfl ?_
  refine k_aload_n X dX8_copyFrom_k1.2.1.1 1 rfl ?_
  refine k_get (ci := 8) X inlX8 rfl 3 (nlt_e rfl) dX8_copyFrom_k1.2.1.2 mw100 2 rfl rfl ?_
  refine k_put (ci := 8) [(cO8_iiri h0 8 3 h0c h1n), (cAI g h0c 24 (va_cpy h1f h0f (0 : Int32).toNatClampNeg (0 : Int32).toNatClampNeg (24 : Int32).toNatClampNeg)), (cO8_iiri h1 8 3 h1c h1n), (cAI g h1c 24 h1f)] X inlX8 rfl tyX8_ok nmX8 3 (nlt_e rfl) rfl dX8_copyFrom_k1.2.2.1 mw100 0 rfl rfl rfl (Nat.le_of_ble_eq_true rfl) rfl ?_
  exact k_vret X hr dX8_copyFrom_k1.2.2.2 (Nat.le_of_ble_eq_true rfl) (Nat.le_of_ble_eq_true rfl) [0, 1, 2, 3] (vnd_e rfl) rfl rfl ⟨(va_cpy h1f h0f (0 : Int32).toNatClampNeg (0 : Int32).toNatClampNeg (24 : Int32).toNatClampNeg), h1n, ⟨rfl, rfl⟩, rfl⟩


set_option maxHeartbeats 4000000 in
set_option maxRecDepth 100000 in
theorem t_copyFrom12_3X (l : Launch) (g : Gx) (h0 : Nat) (h1 : Nat) (h0c : Nat) (h0n : Int32) (h0f : Nat → Int32) (h1c : Nat) (h1n : Int32) (h1f : Nat → Int32) : cV l g yX8_copyFrom cX8_copyFrom 2 1 40 0 0 [.ref h0, .ref h1] [(cO8_iiri h0 12 3 h0c h0n), (cAI g h0c 36 h0f), (cO8_iiri h1 12 3 h1c h1n), (cAI g h1c 36 h1f)] (fun w => ∃ (h0g : Nat → Int32) (h0k : Int32), (R_t_copyFrom12_3X h0f h1n h1f h0g h0k) ∧ w = [(cO8_iiri h0 12 3 h0c h0k), (cAI g h0c 36 h0g), (cO8_iiri h1 12 3 h1c h1n), (cAI g h1c 36 h1f)]) := by
  refine cV.of (by decide) (Nat.le_of_ble_eq_true rfl) ?_
  intro p e s m args below meth c A X hr hi
  refine k_lveq [(0, .ref h0), (1, .ref h1)] rfl ?_
  refine k_aload_n X dX8_copyFrom_k0.1.1.1.1 1 rfl ?_
  refine k_ifnull X dX8_copyFrom_k0.1.1.1.2 ?_
  refine k_aload_n X dX8_copyFrom_k0.1.1.2.1 1 rfl ?_
  refine k_get (ci := 8) X inlX8 rfl 2 (nlt_e rfl) dX8_copyFrom_k0.1.1.2.2 mw108 2 rfl rfl ?_
  refine k_alen 36 1 X dX8_copyFrom_k0.1.2.1.1 3 rfl rfl (by show Int32.ofNat 36 = 36; decide) ?_
  refine k_aload_n X dX8_copyFrom_k0.1.2.1.2 0 rfl ?_
  refine k_get (ci := 8) X inlX8 rfl 2 (nlt_e rfl) dX8_copyFrom_k0.1.2.2.1 mw108 0 rfl rfl ?_
  refine k_alen 36 1 X dX8_copyFrom_k0.1.2.2.2 1 rfl rfl (by show Int32.ofNat 36 = 36; decide) ?_
  refine k_ic_eq 18 X dX8_copyFrom_k0.2.1.1.1 (jp_e rfl) (fun _ => ?_) (fun h_1 => absurd (by decide) h_1)
  refine k_aload_n X dX8_copyFrom_k0.2.1.1.2 1 rfl ?_
  refine k_get (ci := 8) X inlX8 rfl 2 (nlt_e rfl) dX8_copyFrom_k0.2.1.2.1 mw108 2 rfl rfl ?_
  refine k_iconst (v := 0) X dX8_copyFrom_k0.2.1.2.2 ic_0 ?_
  refine k_aload_n X dX8_copyFrom_k0.2.2.1.1 0 rfl ?_
  refine k_get (ci := 8) X inlX8 rfl 2 (nlt_e rfl) dX8_copyFrom_k0.2.2.1.2 mw108 0 rfl rfl ?_
  refine k_iconst (v := 0) X dX8_copyFrom_k0.2.2.2.1 ic_0 ?_
  refine k_aload_n X dX8_copyFrom_k0.2.2.2.2 0 rfl ?_
  refine k_get (ci := 8) X inlX8 rfl 2 (nlt_e rfl) dX8_copyFrom_k1.1.1.1 mw108 0 rfl rfl ?_
  refine k_alen 36 1 X dX8_copyFrom_k1.1.1.2 1 rfl rfl (by show Int32.ofNat 36 = 36; decide) ?_
  refine k_copyi [(cO8_iiri h0 12 3 h0c h0n), (cAI g h0c 36 (va_cpy h1f h0f (0 : Int32).toNatClampNeg (0 : Int32).toNatClampNeg (36 : Int32).toNatClampNeg)), (cO8_iiri h1 12 3 h1c h1n), (cAI g h1c 36 h1f)] X dX8_copyFrom_k1.1.2.1 mw450 mw451 mw452 mw453 3 1 rfl rfl (by decide) (by decide) (by decide) (by decide) (by decide) (Nat.le_of_ble_eq_true rfl) (Nat.le_of_ble_eq_true rfl) rfl ?_
  refine k_aload_n X dX8_copyFrom_k1.1.2.2 0 rfl ?_
  refine k_aload_n X dX8_copyFrom_k1.2.1.1 1 rfl ?_
  refine k_get (ci := 8) X inlX8 rfl 3 (nlt_e rfl) dX8_copyFrom_k1.2.1.2 mw100 2 rfl rfl ?_
  refine k_put (ci := 8) [(cO8_iiri h0 12 3 h0c h1n), (cAI g h0c 36 (va_cpy h1f h0f (0 : Int32).toNatClampNeg (0 : Int32).toNatClampNeg (36 : Int32).toNatClampNeg)), (cO8_iiri h1 12 3 h1c h1n), (cAI g h1c 36 h1f)] X inlX8 rfl tyX8_ok nmX8 3 (nlt_e rfl) rfl dX8_copyFrom_k1.2.2.1 mw100 0 rfl rfl rfl (Nat.le_of_ble_eq_true rfl) rfl ?_
  exact k_vret X hr dX8_copyFrom_k1.2.2.2 (Nat.le_of_ble_eq_true rfl) (Nat.le_of_ble_eq_true rfl) [0, 1, 2, 3] (vnd_e rfl) rfl rfl ⟨(va_cpy h1f h0f (0 : Int32).toNatClampNeg (0 : Int32).toNatClampNeg (36 : Int32).toNatClampNeg), h1n, ⟨rfl, rfl⟩, rfl⟩


set_option maxHeartbeats 4000000 in
set_option maxRecDepth 100000 in
theorem s_copyFromX (l : Launch) (g : Gx) (h0 : Nat) (h1 : Nat) (xr : Nat) (xm : Nat) (xw : Nat) (xp : Nat) (xmd : Int32) (xtr : Int32) (xrc : Nat) (xrn : Int32) (xrf : Nat → Int32) (xmc : Nat) (xmn : Int32) (xmf : Nat → Int32) (xwc : Nat) (xwn : Int32) (xwf : Nat → Int32) (xpc : Nat) (xpn : Int32) (xpf : Nat → Int32) (yr : Nat) (ym : Nat) (yw : Nat) (yp : Nat) (ymd : Int32) (ytr : Int32) (yrc : Nat) (yrn : Int32) (yrf : Nat → Int32) (ymc : Nat) (ymn : Int32) (ymf : Nat → Int32) (ywc : Nat) (ywn : Int32) (ywf : Nat → Int32) (ypc : Nat) (ypn : Int32) (ypf : Nat → Int32) : cV l g yX7_copyFrom cX7_copyFrom 2 2 61 0 0 [.ref h0, .ref h1] [(cO7_rrrrii h0 xr xm xw xp xmd xtr), (cO8_iiri xr 8 3 xrc xrn), (cAI g xrc 24 xrf), (cO8_iiri xm 12 3 xmc xmn), (cAI g xmc 36 xmf), (cO8_iiri xw 6 3 xwc xwn), (cAI g xwc 18 xwf), (cO8_iiri xp 8 2 xpc xpn), (cAI g xpc 16 xpf), (cO7_rrrrii h1 yr ym yw yp ymd ytr), (cO8_iiri yr 8 3 yrc yrn), (cAI g yrc 24 yrf), (cO8_iiri ym 12 3 ymc ymn), (cAI g ymc 36 ymf), (cO8_iiri yw 6 3 ywc ywn), (cAI g ywc 18 ywf), (cO8_iiri yp 8 2 ypc ypn), (cAI g ypc 16 ypf)] (fun w => ∃ (xrg : Nat → Int32) (xmg : Nat → Int32) (xwg : Nat → Int32) (xpg : Nat → Int32) (xrk : Int32) (xmk : Int32) (xwk : Int32) (xpk : Int32) (xmd2 : Int32) (xtr2 : Int32), (R_s_copyFromX xrf xmf xwf xpf ymd ytr yrn yrf ymn ymf ywn ywf ypn ypf xrg xmg xwg xpg xrk xmk xwk xpk xmd2 xtr2) ∧ w = [(cO7_rrrrii h0 xr xm xw xp xmd2 xtr2), (cO8_iiri xr 8 3 xrc xrk), (cAI g xrc 24 xrg), (cO8_iiri xm 12 3 xmc xmk), (cAI g xmc 36 xmg), (cO8_iiri xw 6 3 xwc xwk), (cAI g xwc 18 xwg), (cO8_iiri xp 8 2 xpc xpk), (cAI g xpc 16 xpg), (cO7_rrrrii h1 yr ym yw yp ymd ytr), (cO8_iiri yr 8 3 yrc yrn), (cAI g yrc 24 yrf), (cO8_iiri ym 12 3 ymc ymn), (cAI g ymc 36 ymf), (cO8_iiri yw 6 3 ywc ywn), (cAI g ywc 18 ywf), (cO8_iiri yp 8 2 ypc ypn), (cAI g ypc 16 ypf)]) := by
  refine cV.of (by decide) (Nat.le_of_ble_eq_true rfl) ?_
  intro p e s m args below meth c A X hr hi
  refine k_lveq [(0, .ref h0), (1, .ref h1)] rfl ?_
  refine k_aload_n X dX7_copyFrom_k0.1.1.1.1 1 rfl ?_
  refine k_ifnonnull 5 X dX7_copyFrom_k0.1.1.1.2 (jp_e rfl) ?_
  refine k_aload_n X dX7_copyFrom_k0.1.1.2.1 0 rfl ?_
  refine k_get (ci := 7) X inlX7 rfl 0 (nlt_e rfl) dX7_copyFrom_k0.1.1.2.2 mw90 0 rfl rfl ?_
  refine k_aload_n X dX7_copyFrom_k0.1.2.1.1 1 rfl ?_
  refine k_get (ci := 7) X inlX7 rfl 0 (nlt_e rfl) dX7_copyFrom_k0.1.2.1.2 mw90 9 rfl rfl ?_
  refine k_callVV (n := 1) (As := [.ref yr]) (st := []) X [(cO8_iiri xr 8 3 xrc xrn), (cAI g xrc 24 xrf), (cO8_iiri yr 8 3 yrc yrn), (cAI g yrc 24 yrf)] [(cO7_rrrrii h0 xr xm xw xp xmd xtr), (cO8_iiri xm 12 3 xmc xmn), (cAI g xmc 36 xmf), (cO8_iiri xw 6 3 xwc xwn), (cAI g xwc 18 xwf), (cO8_iiri xp 8 2 xpc xpn), (cAI g xpc 16 xpf), (cO7_rrrrii h1 yr ym yw yp ymd ytr), (cO8_iiri ym 12 3 ymc ymn), (cAI g ymc 36 ymf), (cO8_iiri yw 6 3 ywc ywn), (cAI g ywc 18 ywf), (cO8_iiri yp 8 2 ypc ypn), (cAI g ypc 16 ypf)] [1, 2, 10, 11] [0, 3, 4, 5, 6, 7, 8, 9, 12, 13, 14, 15, 16, 17] (t_copyFrom8_3X l g xr yr xrc xrn xrf yrc yrn yrf) dX7_copyFrom_k0.1.2.2.1 mw446 mw447 mw448 mw64 mw449 rfl 8 rfl rfl 0 _ rfl yk_yX8_copyFrom_1 rfl (Nat.le_of_ble_eq_true rfl) (Nat.le_of_ble_eq_true rfl) (Nat.le_of_ble_eq_true rfl) (Nat.le_of_ble_eq_true rfl) (Nat.le_of_ble_eq_true rfl) rfl rfl (by decide +kernel) rfl (by decide +kernel) (by decide +kernel) ?_
  rintro w ⟨h0g_1, h0k_2, hq_4, rfl⟩
  refine k_ws [(cO7_rrrrii h0 xr xm xw xp xmd xtr), (cO8_iiri xm 12 3 xmc xmn), (cAI g xmc 36 xmf), (cO8_iiri xw 6 3 xwc xwn), (cAI g xwc 18 xwf), (cO8_iiri xp 8 2 xpc xpn), (cAI g xpc 16 xpf), (cO7_rrrrii h1 yr ym yw yp ymd ytr), (cO8_iiri ym 12 3 ymc ymn), (cAI g ymc 36 ymf), (cO8_iiri yw 6 3 ywc ywn), (cAI g ywc 18 ywf), (cO8_iiri yp 8 2 ypc ypn), (cAI g ypc 16 ypf), (cO8_iiri xr 8 3 xrc h0k_2), (cAI g xrc 24 h0g_1), (cO8_iiri yr 8 3 yrc yrn), (cAI g yrc 24 yrf)] rfl ?_
  refine k_aload_n X dX7_copyFrom_k0.1.2.2.2 0 rfl ?_
  refine k_get (ci := 7) X inlX7 rfl 1 (nlt_e rfl) dX7_copyFrom_k0.2.1.1.1 mw91 0 rfl rfl ?_
  refine k_aload_n X dX7_copyFrom_k0.2.1.1.2 1 rfl ?_
  refine k_get (ci := 7) X inlX7 rfl 1 (nlt_e rfl) dX7_copyFrom_k0.2.1.2.1 mw91 7 rfl rfl ?_
  refine k_callVV (n := 1) (As := [.ref ym]) (st := []) X [(cO8_iiri xm 12 3 xmc xmn), (cAI g xmc 36 xmf), (cO8_iiri ym 12 3 ymc ymn), (cAI g ymc 36 ymf)] [(cO7_rrrrii h0 xr xm xw xp xmd xtr), (cO8_iiri xw 6 3 xwc xwn), (cAI g xwc 18 xwf), (cO8_iiri xp 8 2 xpc xpn), (cAI g xpc 16 xpf), (cO7_rrrrii h1 yr ym yw yp ymd ytr), (cO8_iiri yw 6 3 ywc ywn), (cAI g ywc 18 ywf), (cO8_iiri yp 8 2 ypc ypn), (cAI g ypc 16 ypf), (cO8_iiri xr 8 3 xrc h0k_2), (cAI g xrc 24 h0g_1), (cO8_iiri yr 8 3 yrc yrn), (cAI g yrc 24 yrf)] [1, 2, 8, 9] [0, 3, 4, 5, 6, 7, 10, 11, 12, 13, 14, 15, 16, 17] (t_copyFrom12_3X l g xm ym xmc xmn xmf ymc ymn ymf) dX7_copyFrom_k0.2.1.2.2 mw446 mw447 mw448 mw64 mw449 rfl 8 rfl rfl 0 _ rfl yk_yX8_copyFrom_1 rfl (Nat.le_of_ble_eq_true rfl) (Nat.le_of_ble_eq_true rfl) (Nat.le_of_ble_eq_true rfl) (Nat.le_of_ble_eq_true rfl) (Nat.le_of_ble_eq_true rfl) rfl rfl (by decide +kernel) rfl (by decide +kernel) (by decide +kernel) ?_
  rintro w ⟨h0g_5, h0k_6, hq_8, rfl⟩
  refine k_ws [(cO7_rrrrii h0 xr xm xw xp xmd xtr), (cO8_iiri xw 6 3 xwc xwn), (cAI g xwc 18 xwf), (cO8_iiri xp 8 2 xpc xpn), (cAI g xpc 16 xpf), (cO7_rrrrii h1 yr ym yw yp ymd ytr), (cO8_iiri yw 6 3 ywc ywn), (cAI g ywc 18 ywf), (cO8_iiri yp 8 2 ypc ypn), (cAI g ypc 16 ypf), (cO8_iiri xr 8 3 xrc h0k_2), (cAI g xrc 24 h0g_1), (cO8_iiri yr 8 3 yrc yrn), (cAI g yrc 24 yrf), (cO8_iiri xm 12 3 xmc h0k_6), (cAI g xmc 36 h0g_5), (cO8_iiri ym 12 3 ymc ymn), (cAI g ymc 36 ymf)] rfl ?_
  refine k_aload_n X dX7_copyFrom_k0.2.2.1.1 0 rfl ?_
  refine k_get (ci := 7) X inlX7 rfl 2 (nlt_e rfl) dX7_copyFrom_k0.2.2.1.2 mw92 0 rfl rfl ?_
  refine k_aload_n X dX7_copyFrom_k0.2.2.2.1 1 rfl ?_
  refine k_get (ci := 7) X inlX7 rfl 2 (nlt_e rfl) dX7_copyFrom_k0.2.2.2.2 mw92 5 rfl rfl ?_
  refine k_callVV (n := 1) (As := [.ref yw]) (st := []) X [(cO8_iiri xw 6 3 xwc xwn), (cAI g xwc 18 xwf), (cO8_iiri yw 6 3 ywc ywn), (cAI g ywc 18 ywf)] [(cO7_rrrrii h0 xr xm xw xp xmd xtr), (cO8_iiri xp 8 2 xpc xpn), (cAI g xpc 16 xpf), (cO7_rrrrii h1 yr ym yw yp ymd ytr), (cO8_iiri yp 8 2 ypc ypn), (cAI g ypc 16 ypf), (cO8_iiri xr 8 3 xrc h0k_2), (cAI g xrc 24 h0g_1), (cO8_iiri yr 8 3 yrc yrn), (cAI g yrc 24 yrf), (cO8_iiri xm 12 3 xmc h0k_6), (cAI g xmc 36 h0g_5), (cO8_iiri ym 12 3 ymc ymn), (cAI g ymc 36 ymf)] [1, 2, 6, 7] [0, 3, 4, 5, 8, 9, 10, 11, 12, 13, 14, 15, 16, 17] (t_copyFrom6_3X l g xw yw xwc xwn xwf ywc ywn ywf) dX7_copyFrom_k1.1.1.1 mw446 mw447 mw448 mw64 mw449 rfl 8 rfl rfl 0 _ rfl yk_yX8_copyFrom_1 rfl (Nat.le_of_ble_eq_true rfl) (Nat.le_of_ble_eq_true rfl) (Nat.le_of_ble_eq_true rfl) (Nat.le_of_ble_eq_true rfl) (Nat.le_of_ble_eq_true rfl) rfl rfl (by decide +kernel) rfl (by decide +kernel) (by decide +kernel) ?_
  rintro w ⟨h0g_9, h0k_10, hq_12, rfl⟩
  refine k_ws [(cO7_rrrrii h0 xr xm xw xp xmd xtr), (cO8_iiri xp 8 2 xpc xpn), (cAI g xpc 16 xpf), (cO7_rrrrii h1 yr ym yw yp ymd ytr), (cO8_iiri yp 8 2 ypc ypn), (cAI g ypc 16 ypf), (cO8_iiri xr 8 3 xrc h0k_2), (cAI g xrc 24 h0g_1), (cO8_iiri yr 8 3 yrc yrn), (cAI g yrc 24 yrf), (cO8_iiri xm 12 3 xmc h0k_6), (cAI g xmc 36 h0g_5), (cO8_iiri ym 12 3 ymc ymn), (cAI g ymc 36 ymf), (cO8_iiri xw 6 3 xwc h0k_10), (cAI g xwc 18 h0g_9), (cO8_iiri yw 6 3 ywc ywn), (cAI g ywc 18 ywf)] rfl ?_
  refine k_aload_n X dX7_copyFrom_k1.1.1.2.1 0 rfl ?_
  refine k_get (ci := 7) X inlX7 rfl 3 (nlt_e rfl) dX7_copyFrom_k1.1.1.2.2 mw93 0 rfl rfl ?_
  refine k_aload_n X dX7_copyFrom_k1.1.2.1.1 1 rfl ?_
  refine k_get (ci := 7) X inlX7 rfl 3 (nlt_e rfl) dX7_copyFrom_k1.1.2.1.2 mw93 3 rfl rfl ?_
  refine k_callVV (n := 1) (As := [.ref yp]) (st := []) X [(cO8_iiri xp 8 2 xpc xpn), (cAI g xpc 16 xpf), (cO8_iiri yp 8 2 ypc ypn), (cAI g ypc 16 ypf)] [(cO7_rrrrii h0 xr xm xw xp xmd xtr), (cO7_rrrrii h1 yr ym yw yp ymd ytr), (cO8_iiri xr 8 3 xrc h0k_2), (cAI g xrc 24 h0g_1), (cO8_iiri yr 8 3 yrc yrn), (cAI g yrc 24 yrf), (cO8_iiri xm 12 3 xmc h0k_6), (cAI g xmc 36 h0g_5), (cO8_iiri ym 12 3 ymc ymn), (cAI g ymc 36 ymf), (cO8_iiri xw 6 3 xwc h0k_10), (cAI g xwc 18 h0g_9), (cO8_iiri yw 6 3 ywc ywn), (cAI g ywc 18 ywf)] [1, 2, 4, 5] [0, 3, 6, 7, 8, 9, 10, 11, 12, 13, 14, 15, 16, 17] (t_copyFrom8_2X l g xp yp xpc xpn xpf ypc ypn ypf) dX7_copyFrom_k1.1.2.2.1 mw446 mw447 mw448 mw64 mw449 rfl 8 rfl rfl 0 _ rfl yk_yX8_copyFrom_1 rfl (Nat.le_of_ble_eq_true rfl) (Nat.le_of_ble_eq_true rfl) (Nat.le_of_ble_eq_true rfl) (Nat.le_of_ble_eq_true rfl) (Nat.le_of_ble_eq_true rfl) rfl rfl (by decide +kernel) rfl (by decide +kernel) (by decide +kernel) ?_
  rintro w ⟨h0g_13, h0k_14, hq_16, rfl⟩
  refine k_ws [(cO7_rrrrii h0 xr xm xw xp xmd xtr), (cO7_rrrrii h1 yr ym yw yp ymd ytr), (cO8_iiri xr 8 3 xrc h0k_2), (cAI g xrc 24 h0g_1), (cO8_iiri yr 8 3 yrc yrn), (cAI g yrc 24 yrf), (cO8_iiri xm 12 3 xmc h0k_6), (cAI g xmc 36 h0g_5), (cO8_iiri ym 12 3 ymc ymn), (cAI g ymc 36 ymf), (cO8_iiri xw 6 3 xwc h0k_10), (cAI g xwc 18 h0g_9), (cO8_iiri yw 6 3 ywc ywn), (cAI g ywc 18 ywf), (cO8_iiri xp 8 2 xpc h0k_14), (cAI g xpc 16 h0g_13), (cO8_iiri yp 8 2 ypc ypn), (cAI g ypc 16 ypf)] rfl ?_
  refine k_aload_n X dX7_copyFrom_k1.1.2.2.2 0 rfl ?_
  refine k_aload_n X dX7_copyFrom_k1.2.1.1.1 1 rfl ?_
  refine k_get (ci := 7) X inlX7 rfl 4 (nlt_e rfl) dX7_copyFrom_k1.2.1.1.2 mw94 1 rfl rfl ?_
  refine k_put (ci := 7) [(cO7_rrrrii h0 xr xm xw xp ymd xtr), (cO7_rrrrii h1 yr ym yw yp ymd ytr), (cO8_iiri xr 8 3 xrc h0k_2), (cAI g xrc 24 h0g_1), (cO8_iiri yr 8 3 yrc yrn), (cAI g yrc 24 yrf), (cO8_iiri xm 12 3 xmc h0k_6), (cAI g xmc 36 h0g_5), (cO8_iiri ym 12 3 ymc ymn), (cAI g ymc 36 ymf), (cO8_iiri xw 6 3 xwc h0k_10), (cAI g xwc 18 h0g_9), (cO8_iiri yw 6 3 ywc ywn), (cAI g ywc 18 ywf), (cO8_iiri xp 8 2 xpc h0k_14), (cAI g xpc 16 h0g_13), (cO8_iiri yp 8 2 ypc ypn), (cAI g ypc 16 ypf)] X inlX7 rfl tyX7_ok nmX7 4 (nlt_e rfl) rfl dX7_copyFrom_k1.2.1.2.1 mw94 0 rfl rfl rfl (Nat.le_of_ble_eq_true rfl) rfl ?_
  refine k_aload_n X dX7_copyFrom_k1.2.1.2.2 0 rfl ?_
  refine k_aload_n X dX7_copyFrom_k1.2.2.1.1 1 rfl ?_
  refine k_get (ci := 7) X inlX7 rfl 5 (nlt_e rfl) dX7_copyFrom_k1.2.2.1.2 mw95 1 rfl rfl ?_
  refine k_put (ci := 7) [(cO7_rrrrii h0 xr xm xw xp ymd ytr), (cO7_rrrrii h1 yr ym yw yp ymd ytr), (cO8_iiri xr 8 3 xrc h0k_2), (cAI g xrc 24 h0g_1), (cO8_iiri yr 8 3 yrc yrn), (cAI g yrc 24 yrf), (cO8_iiri xm 12 3 xmc h0k_6), (cAI g xmc 36 h0g_5), (cO8_iiri ym 12 3 ymc ymn), (cAI g ymc 36 ymf), (cO8_iiri xw 6 3 xwc h0k_10), (cAI g xwc 18 h0g_9), (cO8_iiri yw 6 3 ywc ywn), (cAI g ywc 18 ywf), (cO8_iiri xp 8 2 xpc h0k_14), (cAI g xpc 16 h0g_13), (cO8_iiri yp 8 2 ypc ypn), (cAI g ypc 16 ypf)] X inlX7 rfl tyX7_ok nmX7 5 (nlt_e rfl) rfl dX7_copyFrom_k1.2.2.2.1 mw95 0 rfl rfl rfl (Nat.le_of_ble_eq_true rfl) rfl ?_
  exact k_vret X hr dX7_copyFrom_k1.2.2.2.2 (Nat.le_of_ble_eq_true rfl) (Nat.le_of_ble_eq_true rfl) [0, 2, 3, 6, 7, 10, 11, 14, 15, 1, 4, 5, 8, 9, 12, 13, 16, 17] (vnd_e rfl) rfl rfl (exI10 h0g_1 h0g_5 h0g_9 h0g_13 h0k_2 h0k_6 h0k_10 h0k_14 ymd ytr ⟨⟨h0g_1, h0k_2, hq_4, ⟨h0g_5, h0k_6, hq_8, ⟨h0g_9, h0k_10, hq_12, ⟨h0g_13, h0k_14, hq_16, ⟨rfl, rfl, rfl, rfl, rfl, rfl, rfl, rfl, rfl, rfl⟩⟩⟩⟩⟩, rfl⟩)


set_option maxHeartbeats 4000000 in
set_option maxRecDepth 100000 in
theorem h_copyFromX (l : Launch) (g : Gx) (h0 : Nat) (h1 : Nat) (xs : Nat) (xhn : Nat) (xht : Nat) (xhj : Nat) (xhm : Nat) (xhb : Nat) (xhs : Nat) (xhc : Nat) (xr : Nat) (xm : Nat) (xw : Nat) (xp : Nat) (xmd : Int32) (xtr : Int32) (xrc : Nat) (xrn : Int32) (xrf : Nat → Int32) (xmc : Nat) (xmn : Int32) (xmf : Nat → Int32) (xwc : Nat) (xwn : Int32) (xwf : Nat → Int32) (xpc : Nat) (xpn : Int32) (xpf : Nat → Int32) (xhnc : Nat) (xhnn : Int32) (xhnf : Nat → Int32) (xhtc : Nat) (xhtn : Int32) (xhtf : Nat → Int32) (xhjc : Nat) (xhjn : Int32) (xhjf : Nat → Int32) (xhmc : Nat) (xhmn : Int32) (xhmf : Nat → Int32) (xhbc : Nat) (xhbn : Int32) (xhbf : Nat → Int32) (xhsc : Nat) (xhsn : Int32) (xhsf : Nat → Int32) (xhcc : Nat) (xhcn : Int32) (xhcf : Nat → Int32) (ys : Nat) (yhn : Nat) (yht : Nat) (yhj : Nat) (yhm : Nat) (yhb : Nat) (yhs : Nat) (yhc : Nat) (yr : Nat) (ym : Nat) (yw : Nat) (yp : Nat) (ymd : Int32) (ytr : Int32) (yrc : Nat) (yrn : Int32) (yrf : Nat → Int32) (ymc : Nat) (ymn : Int32) (ymf : Nat → Int32) (ywc : Nat) (ywn : Int32) (ywf : Nat → Int32) (ypc : Nat) (ypn : Int32) (ypf : Nat → Int32) (yhnc : Nat) (yhnn : Int32) (yhnf : Nat → Int32) (yhtc : Nat) (yhtn : Int32) (yhtf : Nat → Int32) (yhjc : Nat) (yhjn : Int32) (yhjf : Nat → Int32) (yhmc : Nat) (yhmn : Int32) (yhmf : Nat → Int32) (yhbc : Nat) (yhbn : Int32) (yhbf : Nat → Int32) (yhsc : Nat) (yhsn : Int32) (yhsf : Nat → Int32) (yhcc : Nat) (yhcn : Int32) (yhcf : Nat → Int32) : cV l g yX3_copyFrom cX3_copyFrom 2 3 82 0 0 [.ref h0, .ref h1] ((cO3_rrrrrrrr h0 xs xhn xht xhj xhm xhb xhs xhc) :: (cO7_rrrrii xs xr xm xw xp xmd xtr) :: (cO8_iiri xr 8 3 xrc xrn) :: (cAI g xrc 24 xrf) :: (cO8_iiri xm 12 3 xmc xmn) :: (cAI g xmc 36 xmf) :: (cO8_iiri xw 6 3 xwc xwn) :: (cAI g xwc 18 xwf) :: (cO8_iiri xp 8 2 xpc xpn) :: (cAI g xpc 16 xpf) :: (cO8_iiri xhn 1 6 xhnc xhnn) :: (cAI g xhnc 6 xhnf) :: (cO8_iiri xht 4 1 xhtc xhtn) :: (cAI g xhtc 4 xhtf) :: (cO8_iiri xhj 8 2 xhjc xhjn) :: (cAI g xhjc 16 xhjf) :: (cO8_iiri xhm 4 3 xhmc xhmn) :: (cAI g xhmc 12 xhmf) :: (cO8_iiri xhb 1 3 xhbc xhbn) :: (cAI g xhbc 3 xhbf) :: (cO8_iiri xhs 6 3 xhsc xhsn) :: (cAI g xhsc 18 xhsf) :: (cO8_iiri xhc 6 2 xhcc xhcn) :: (cAI g xhcc 12 xhcf) :: (cO3_rrrrrrrr h1 ys yhn yht yhj yhm yhb yhs yhc) :: (cO7_rrrrii ys yr ym yw yp ymd ytr) :: (cO8_iiri yr 8 3 yrc yrn) :: (cAI g yrc 24 yrf) :: (cO8_iiri ym 12 3 ymc ymn) :: (cAI g ymc 36 ymf) :: (cO8_iiri yw 6 3 ywc ywn) :: (cAI g ywc 18 ywf) :: (cO8_iiri yp 8 2 ypc ypn) :: (cAI g ypc 16 ypf) :: (cO8_iiri yhn 1 6 yhnc yhnn) :: (cAI g yhnc 6 yhnf) :: (cO8_iiri yht 4 1 yhtc yhtn) :: (cAI g yhtc 4 yhtf) :: (cO8_iiri yhj 8 2 yhjc yhjn) :: (cAI g yhjc 16 yhjf) :: (cO8_iiri yhm 4 3 yhmc yhmn) :: (cAI g yhmc 12 yhmf) :: (cO8_iiri yhb 1 3 yhbc yhbn) :: (cAI g yhbc 3 yhbf) :: (cO8_iiri yhs 6 3 yhsc yhsn) :: (cAI g yhsc 18 yhsf) :: (cO8_iiri yhc 6 2 yhcc yhcn) :: (cAI g yhcc 12 yhcf) :: []) (fun w => ∃ (xrg : Nat → Int32) (xmg : Nat → Int32) (xwg : Nat → Int32) (xpg : Nat → Int32) (xrk : Int32) (xmk : Int32) (xwk : Int32) (xpk : Int32) (xmd2 : Int32) (xtr2 : Int32) (xhng : Nat → Int32) (xhtg : Nat → Int32) (xhjg : Nat → Int32) (xhmg : Nat → Int32) (xhbg : Nat → Int32) (xhsg : Nat → Int32) (xhcg : Nat → Int32) (xhnk : Int32) (xhtk : Int32) (xhjk : Int32) (xhmk : Int32) (xhbk : Int32) (xhsk : Int32) (xhck : Int32), (R_h_copyFromX xrf xmf xwf xpf xhnf xhtf xhjf xhmf xhbf xhsf xhcf ymd ytr yrn yrf ymn ymf ywn ywf ypn ypf yhnn yhnf yhtn yhtf yhjn yhjf yhmn yhmf yhbn yhbf yhsn yhsf yhcn yhcf xrg xmg xwg xpg xrk xmk xwk xpk xmd2 xtr2 xhng xhtg xhjg xhmg xhbg xhsg xhcg xhnk xhtk xhjk xhmk xhbk xhsk xhck) ∧ w = ((cO3_rrrrrrrr h0 xs xhn xht xhj xhm xhb xhs xhc) :: (cO7_rrrrii xs xr xm xw xp xmd2 xtr2) :: (cO8_iiri xr 8 3 xrc xrk) :: (cAI g xrc 24 xrg) :: (cO8_iiri xm 12 3 xmc xmk) :: (cAI g xmc 36 xmg) :: (cO8_iiri xw 6 3 xwc xwk) :: (cAI g xwc 18 xwg) :: (cO8_iiri xp 8 2 xpc xpk) :: (cAI g xpc 16 xpg) :: (cO8_iiri xhn 1 6 xhnc xhnk) :: (cAI g xhnc 6 xhng) :: (cO8_iiri xht 4 1 xhtc xhtk) :: (cAI g xhtc 4 xhtg) :: (cO8_iiri xhj 8 2 xhjc xhjk) :: (cAI g xhjc 16 xhjg) :: (cO8_iiri xhm 4 3 xhmc xhmk) :: (cAI g xhmc 12 xhmg) :: (cO8_iiri xhb 1 3 xhbc xhbk) :: (cAI g xhbc 3 xhbg) :: (cO8_iiri xhs 6 3 xhsc xhsk) :: (cAI g xhsc 18 xhsg) :: (cO8_iiri xhc 6 2 xhcc xhck) :: (cAI g xhcc 12 xhcg) :: (cO3_rrrrrrrr h1 ys yhn yht yhj yhm yhb yhs yhc) :: (cO7_rrrrii ys yr ym yw yp ymd ytr) :: (cO8_iiri yr 8 3 yrc yrn) :: (cAI g yrc 24 yrf) :: (cO8_iiri ym 12 3 ymc ymn) :: (cAI g ymc 36 ymf) :: (cO8_iiri yw 6 3 ywc ywn) :: (cAI g ywc 18 ywf) :: (cO8_iiri yp 8 2 ypc ypn) :: (cAI g ypc 16 ypf) :: (cO8_iiri yhn 1 6 yhnc yhnn) :: (cAI g yhnc 6 yhnf) :: (cO8_iiri yht 4 1 yhtc yhtn) :: (cAI g yhtc 4 yhtf) :: (cO8_iiri yhj 8 2 yhjc yhjn) :: (cAI g yhjc 16 yhjf) :: (cO8_iiri yhm 4 3 yhmc yhmn) :: (cAI g yhmc 12 yhmf) :: (cO8_iiri yhb 1 3 yhbc yhbn) :: (cAI g yhbc 3 yhbf) :: (cO8_iiri yhs 6 3 yhsc yhsn) :: (cAI g yhsc 18 yhsf) :: (cO8_iiri yhc 6 2 yhcc yhcn) :: (cAI g yhcc 12 yhcf) :: [])) := by
  refine cV.of (by decide) (Nat.le_of_ble_eq_true rfl) ?_
  intro p e s m args below meth c A X hr hi
  refine k_lveq [(0, .ref h0), (1, .ref h1)] rfl ?_
  refine k_aload_n X dX3_copyFrom_k0.1.1.1.1 1 rfl ?_
  refine k_ifnonnull 5 X dX3_copyFrom_k0.1.1.1.2 (jp_e rfl) ?_
  refine k_aload_n X dX3_copyFrom_k0.1.1.2.1 0 rfl ?_
  refine k_get (ci := 3) X inlX3 rfl 0 (nlt_e rfl) dX3_copyFrom_k0.1.1.2.2 mw77 0 rfl rfl ?_
  refine k_aload_n X dX3_copyFrom_k0.1.2.1.1 1 rfl ?_
  refine k_get (ci := 3) X inlX3 rfl 0 (nlt_e rfl) dX3_copyFrom_k0.1.2.1.2 mw77 24 rfl rfl ?_
  refine k_callVV (n := 1) (As := [.ref ys]) (st := []) X [(cO7_rrrrii xs xr xm xw xp xmd xtr), (cO8_iiri xr 8 3 xrc xrn), (cAI g xrc 24 xrf), (cO8_iiri xm 12 3 xmc xmn), (cAI g xmc 36 xmf), (cO8_iiri xw 6 3 xwc xwn), (cAI g xwc 18 xwf), (cO8_iiri xp 8 2 xpc xpn), (cAI g xpc 16 xpf), (cO7_rrrrii ys yr ym yw yp ymd ytr), (cO8_iiri yr 8 3 yrc yrn), (cAI g yrc 24 yrf), (cO8_iiri ym 12 3 ymc ymn), (cAI g ymc 36 ymf), (cO8_iiri yw 6 3 ywc ywn), (cAI g ywc 18 ywf), (cO8_iiri yp 8 2 ypc ypn), (cAI g ypc 16 ypf)] ((cO3_rrrrrrrr h0 xs xhn xht xhj xhm xhb xhs xhc) :: (cO8_iiri xhn 1 6 xhnc xhnn) :: (cAI g xhnc 6 xhnf) :: (cO8_iiri xht 4 1 xhtc xhtn) :: (cAI g xhtc 4 xhtf) :: (cO8_iiri xhj 8 2 xhjc xhjn) :: (cAI g xhjc 16 xhjf) :: (cO8_iiri xhm 4 3 xhmc xhmn) :: (cAI g xhmc 12 xhmf) :: (cO8_iiri xhb 1 3 xhbc xhbn) :: (cAI g xhbc 3 xhbf) :: (cO8_iiri xhs 6 3 xhsc xhsn) :: (cAI g xhsc 18 xhsf) :: (cO8_iiri xhc 6 2 xhcc xhcn) :: (cAI g xhcc 12 xhcf) :: (cO3_rrrrrrrr h1 ys yhn yht yhj yhm yhb yhs yhc) :: (cO8_iiri yhn 1 6 yhnc yhnn) :: (cAI g yhnc 6 yhnf) :: (cO8_iiri yht 4 1 yhtc yhtn) :: (cAI g yhtc 4 yhtf) :: (cO8_iiri yhj 8 2 yhjc yhjn) :: (cAI g yhjc 16 yhjf) :: (cO8_iiri yhm 4 3 yhmc yhmn) :: (cAI g yhmc 12 yhmf) :: (cO8_iiri yhb 1 3 yhbc yhbn) :: (cAI g yhbc 3 yhbf) :: (cO8_iiri yhs 6 3 yhsc yhsn) :: (cAI g yhsc 18 yhsf) :: (cO8_iiri yhc 6 2 yhcc yhcn) :: (cAI g yhcc 12 yhcf) :: []) [1, 2, 3, 4, 5, 6, 7, 8, 9, 25, 26, 27, 28, 29, 30, 31, 32, 33] [0, 10, 11, 12, 13, 14, 15, 16, 17, 18, 19, 20, 21, 22, 23, 24, 34, 35, 36, 37, 38, 39, 40, 41, 42, 43, 44, 45, 46, 47] (s_copyFromX l g xs ys xr xm xw xp xmd xtr xrc xrn xrf xmc xmn xmf xwc xwn xwf xpc xpn xpf yr ym yw yp ymd ytr yrc yrn yrf ymc ymn ymf ywc ywn ywf ypc ypn ypf) dX3_copyFrom_k0.1.2.2.1 mw442 mw443 mw444 mw23 mw445 rfl 7 rfl rfl 0 _ rfl yk_yX7_copyFrom_1 rfl (Nat.le_of_ble_eq_true rfl) (Nat.le_of_ble_eq_true rfl) (Nat.le_of_ble_eq_true rfl) (Nat.le_of_ble_eq_true rfl) (Nat.le_of_ble_eq_true rfl) rfl rfl (vnd_e rfl) rfl (vnd_e rfl) (dsj_e rfl) ?_
  intro w zq
  refine exE10 zq ?_
  clear zq
  intro xrg_1 xmg_2 xwg_3 xpg_4 xrk_5 xmk_6 xwk_7 xpk_8 xmd2_9 xtr2_10 hq_12 zq
  subst zq
  refine k_ws ((cO3_rrrrrrrr h0 xs xhn xht xhj xhm xhb xhs xhc) :: (cO8_iiri xhn 1 6 xhnc xhnn) :: (cAI g xhnc 6 xhnf) :: (cO8_iiri xht 4 1 xhtc xhtn) :: (cAI g xhtc 4 xhtf) :: (cO8_iiri xhj 8 2 xhjc xhjn) :: (cAI g xhjc 16 xhjf) :: (cO8_iiri xhm 4 3 xhmc xhmn) :: (cAI g xhmc 12 xhmf) :: (cO8_iiri xhb 1 3 xhbc xhbn) :: (cAI g xhbc 3 xhbf) :: (cO8_iiri xhs 6 3 xhsc xhsn) :: (cAI g xhsc 18 xhsf) :: (cO8_iiri xhc 6 2 xhcc xhcn) :: (cAI g xhcc 12 xhcf) :: (cO3_rrrrrrrr h1 ys yhn yht yhj yhm yhb yhs yhc) :: (cO8_iiri yhn 1 6 yhnc yhnn) :: (cAI g yhnc 6 yhnf) :: (cO8_iiri yht 4 1 yhtc yhtn) :: (cAI g yhtc 4 yhtf) :: (cO8_iiri yhj 8 2 yhjc yhjn) :: (cAI g yhjc 16 yhjf) :: (cO8_iiri yhm 4 3 yhmc yhmn) :: (cAI g yhmc 12 yhmf) :: (cO8_iiri yhb 1 3 yhbc yhbn) :: (cAI g yhbc 3 yhbf) :: (cO8_iiri yhs 6 3 yhsc yhsn) :: (cAI g yhsc 18 yhsf) :: (cO8_iiri yhc 6 2 yhcc yhcn) :: (cAI g yhcc 12 yhcf) :: (cO7_rrrrii xs xr xm xw xp xmd2_9 xtr2_10) :: (cO8_iiri xr 8 3 xrc xrk_5) :: (cAI g xrc 24 xrg_1) :: (cO8_iiri xm 12 3 xmc xmk_6) :: (cAI g xmc 36 xmg_2) :: (cO8_iiri xw 6 3 xwc xwk_7) :: (cAI g xwc 18 xwg_3) :: (cO8_iiri xp 8 2 xpc xpk_8) :: (cAI g xpc 16 xpg_4) :: (cO7_rrrrii ys yr ym yw yp ymd ytr) :: (cO8_iiri yr 8 3 yrc yrn) :: (cAI g yrc 24 yrf) :: (cO8_iiri ym 12 3 ymc ymn) :: (cAI g ymc 36 ymf) :: (cO8_iiri yw 6 3 ywc ywn) :: (cAI g ywc 18 ywf) :: (cO8_iiri yp 8 2 ypc ypn) :: (cAI g ypc 16 ypf) :: []) rfl ?_
  refine k_aload_n X dX3_copyFrom_k0.1.2.2.2 0 rfl ?_
  refine k_get (ci := 3) X inlX3 rfl 1 (nlt_e rfl) dX3_copyFrom_k0.2.1.1.1 mw79 0 rfl rfl ?_
  refine k_aload_n X dX3_copyFrom_k0.2.1.1.2 1 rfl ?_
  refine k_get (ci := 3) X inlX3 rfl 1 (nlt_e rfl) dX3_copyFrom_k0.2.1.2.1 mw79 15 rfl rfl ?_
  refine k_callVV (n := 1) (As := [.ref yhn]) (st := []) X [(cO8_iiri xhn 1 6 xhnc xhnn), (cAI g xhnc 6 xhnf), (cO8_iiri yhn 1 6 yhnc yhnn), (cAI g yhnc 6 yhnf)] ((cO3_rrrrrrrr h0 xs xhn xht xhj xhm xhb xhs xhc) :: (cO8_iiri xht 4 1 xhtc xhtn) :: (cAI g xhtc 4 xhtf) :: (cO8_iiri xhj 8 2 xhjc xhjn) :: (cAI g xhjc 16 xhjf) :: (cO8_iiri xhm 4 3 xhmc xhmn) :: (cAI g xhmc 12 xhmf) :: (cO8_iiri xhb 1 3 xhbc xhbn) :: (cAI g xhbc 3 xhbf) :: (cO8_iiri xhs 6 3 xhsc xhsn) :: (cAI g xhsc 18 xhsf) :: (cO8_iiri xhc 6 2 xhcc xhcn) :: (cAI g xhcc 12 xhcf) :: (cO3_rrrrrrrr h1 ys yhn yht yhj yhm yhb yhs yhc) :: (cO8_iiri yht 4 1 yhtc yhtn) :: (cAI g yhtc 4 yhtf) :: (cO8_iiri yhj 8 2 yhjc yhjn) :: (cAI g yhjc 16 yhjf) :: (cO8_iiri yhm 4 3 yhmc yhmn) :: (cAI g yhmc 12 yhmf) :: (cO8_iiri yhb 1 3 yhbc yhbn) :: (cAI g yhbc 3 yhbf) :: (cO8_iiri yhs 6 3 yhsc yhsn) :: (cAI g yhsc 18 yhsf) :: (cO8_iiri yhc 6 2 yhcc yhcn) :: (cAI g yhcc 12 yhcf) :: (cO7_rrrrii xs xr xm xw xp xmd2_9 xtr2_10) :: (cO8_iiri xr 8 3 xrc xrk_5) :: (cAI g xrc 24 xrg_1) :: (cO8_iiri xm 12 3 xmc xmk_6) :: (cAI g xmc 36 xmg_2) :: (cO8_iiri xw 6 3 xwc xwk_7) :: (cAI g xwc 18 xwg_3) :: (cO8_iiri xp 8 2 xpc xpk_8) :: (cAI g xpc 16 xpg_4) :: (cO7_rrrrii ys yr ym yw yp ymd ytr) :: (cO8_iiri yr 8 3 yrc yrn) :: (cAI g yrc 24 yrf) :: (cO8_iiri ym 12 3 ymc ymn) :: (cAI g ymc 36 ymf) :: (cO8_iiri yw 6 3 ywc ywn) :: (cAI g ywc 18 ywf) :: (cO8_iiri yp 8 2 ypc ypn) :: (cAI g ypc 16 ypf) :: []) [1, 2, 16, 17] [0, 3, 4, 5, 6, 7, 8, 9, 10, 11, 12, 13, 14, 15, 18, 19, 20, 21, 22, 23, 24, 25, 26, 27, 28, 29, 30, 31, 32, 33, 34, 35, 36, 37, 38, 39, 40, 41, 42, 43, 44, 45, 46, 47] (t_copyFrom1_6X l g xhn yhn xhnc xhnn xhnf yhnc yhnn yhnf) dX3_copyFrom_k0.2.1.2.2 mw454 mw447 mw448 mw64 mw449 rfl 8 rfl rfl 0 _ rfl yk_yX8_copyFrom_1 rfl (Nat.le_of_ble_eq_true rfl) (Nat.le_of_ble_eq_true rfl) (Nat.le_of_ble_eq_true rfl) (Nat.le_of_ble_eq_true rfl) (Nat.le_of_ble_eq_true rfl) rfl rfl (vnd_e rfl) rfl (vnd_e rfl) (dsj_e rfl) ?_
  rintro w ⟨h0g_13, h0k_14, hq_16, rfl⟩
  refine k_ws ((cO3_rrrrrrrr h0 xs xhn xht xhj xhm xhb xhs xhc) :: (cO8_iiri xht 4 1 xhtc xhtn) :: (cAI g xhtc 4 xhtf) :: (cO8_iiri xhj 8 2 xhjc xhjn) :: (cAI g xhjc 16 xhjf) :: (cO8_iiri xhm 4 3 xhmc xhmn) :: (cAI g xhmc 12 xhmf) :: (cO8_iiri xhb 1 3 xhbc xhbn) :: (cAI g xhbc 3 xhbf) :: (cO8_iiri xhs 6 3 xhsc xhsn) :: (cAI g xhsc 18 xhsf) :: (cO8_iiri xhc 6 2 xhcc xhcn) :: (cAI g xhcc 12 xhcf) :: (cO3_rrrrrrrr h1 ys yhn yht yhj yhm yhb yhs yhc) :: (cO8_iiri yht 4 1 yhtc yhtn) :: (cAI g yhtc 4 yhtf) :: (cO8_iiri yhj 8 2 yhjc yhjn) :: (cAI g yhjc 16 yhjf) :: (cO8_iiri yhm 4 3 yhmc yhmn) :: (cAI g yhmc 12 yhmf) :: (cO8_iiri yhb 1 3 yhbc yhbn) :: (cAI g yhbc 3 yhbf) :: (cO8_iiri yhs 6 3 yhsc yhsn) :: (cAI g yhsc 18 yhsf) :: (cO8_iiri yhc 6 2 yhcc yhcn) :: (cAI g yhcc 12 yhcf) :: (cO7_rrrrii xs xr xm xw xp xmd2_9 xtr2_10) :: (cO8_iiri xr 8 3 xrc xrk_5) :: (cAI g xrc 24 xrg_1) :: (cO8_iiri xm 12 3 xmc xmk_6) :: (cAI g xmc 36 xmg_2) :: (cO8_iiri xw 6 3 xwc xwk_7) :: (cAI g xwc 18 xwg_3) :: (cO8_iiri xp 8 2 xpc xpk_8) :: (cAI g xpc 16 xpg_4) :: (cO7_rrrrii ys yr ym yw yp ymd ytr) :: (cO8_iiri yr 8 3 yrc yrn) :: (cAI g yrc 24 yrf) :: (cO8_iiri ym 12 3 ymc ymn) :: (cAI g ymc 36 ymf) :: (cO8_iiri yw 6 3 ywc ywn) :: (cAI g ywc 18 ywf) :: (cO8_iiri yp 8 2 ypc ypn) :: (cAI g ypc 16 ypf) :: (cO8_iiri xhn 1 6 xhnc h0k_14) :: (cAI g xhnc 6 h0g_13) :: (cO8_iiri yhn 1 6 yhnc yhnn) :: (cAI g yhnc 6 yhnf) :: []) rfl ?_
  refine k_aload_n X dX3_copyFrom_k0.2.2.1.1 0 rfl ?_
  refine k_get (ci := 3) X inlX3 rfl 2 (nlt_e rfl) dX3_copyFrom_k0.2.2.1.2 mw80 0 rfl rfl ?_
  refine k_aload_n X dX3_copyFrom_k0.2.2.2.1 1 rfl ?_
  refine k_get (ci := 3) X inlX3 rfl 2 (nlt_e rfl) dX3_copyFrom_k0.2.2.2.2 mw80 13 rfl rfl ?_
  refine k_callVV (n := 1) (As := [.ref yht]) (st := []) X [(cO8_iiri xht 4 1 xhtc xhtn), (cAI g xhtc 4 xhtf), (cO8_iiri yht 4 1 yhtc yhtn), (cAI g yhtc 4 yhtf)] ((cO3_rrrrrrrr h0 xs xhn xht xhj xhm xhb xhs xhc) :: (cO8_iiri xhj 8 2 xhjc xhjn) :: (cAI g xhjc 16 xhjf) :: (cO8_iiri xhm 4 3 xhmc xhmn) :: (cAI g xhmc 12 xhmf) :: (cO8_iiri xhb 1 3 xhbc xhbn) :: (cAI g xhbc 3 xhbf) :: (cO8_iiri xhs 6 3 xhsc xhsn) :: (cAI g xhsc 18 xhsf) :: (cO8_iiri xhc 6 2 xhcc xhcn) :: (cAI g xhcc 12 xhcf) :: (cO3_rrrrrrrr h1 ys yhn yht yhj yhm yhb yhs yhc) :: (cO8_iiri yhj 8 2 yhjc yhjn) :: (cAI g yhjc 16 yhjf) :: (cO8_iiri yhm 4 3 yhmc yhmn) :: (cAI g yhmc 12 yhmf) :: (cO8_iiri yhb 1 3 yhbc yhbn) :: (cAI g yhbc 3 yhbf) :: (cO8_iiri yhs 6 3 yhsc yhsn) :: (cAI g yhsc 18 yhsf) :: (cO8_iiri yhc 6 2 yhcc yhcn) :: (cAI g yhcc 12 yhcf) :: (cO7_rrrrii xs xr xm xw xp xmd2_9 xtr2_10) :: (cO8_iiri xr 8 3 xrc xrk_5) :: (cAI g xrc 24 xrg_1) :: (cO8_iiri xm 12 3 xmc xmk_6) :: (cAI g xmc 36 xmg_2) :: (cO8_iiri xw 6 3 xwc xwk_7) :: (cAI g xwc 18 xwg_3) :: (cO8_iiri xp 8 2 xpc xpk_8) :: (cAI g xpc 16 xpg_4) :: (cO7_rrrrii ys yr ym yw yp ymd ytr) :: (cO8_iiri yr 8 3 yrc yrn) :: (cAI g yrc 24 yrf) :: (cO8_iiri ym 12 3 ymc ymn) :: (cAI g ymc 36 ymf) :: (cO8_iiri yw 6 3 ywc ywn) :: (cAI g ywc 18 ywf) :: (cO8_iiri yp 8 2 ypc ypn) :: (cAI g ypc 16 ypf) :: (cO8_iiri xhn 1 6 xhnc h0k_14) :: (cAI g xhnc 6 h0g_13) :: (cO8_iiri yhn 1 6 yhnc yhnn) :: (cAI g yhnc 6 yhnf) :: []) [1, 2, 14, 15] [0, 3, 4, 5, 6, 7, 8, 9, 10, 11, 12, 13, 16, 17, 18, 19, 20, 21, 22, 23, 24, 25, 26, 27, 28, 29, 30, 31, 32, 33, 34, 35, 36, 37, 38, 39, 40, 41, 42, 43, 44, 45, 46, 47] (t_copyFrom4_1X l g xht yht xhtc xhtn xhtf yhtc yhtn yhtf) dX3_copyFrom_k1.1.1.1.1 mw454 mw447 mw448 mw64 mw449 rfl 8 rfl rfl 0 _ rfl yk_yX8_copyFrom_1 rfl (Nat.le_of_ble_eq_true rfl) (Nat.le_of_ble_eq_true rfl) (Nat.le_of_ble_eq_true rfl) (Nat.le_of_ble_eq_true rfl) (Nat.le_of_ble_eq_true rfl) rfl rfl (vnd_e rfl) rfl (vnd_e rfl) (dsj_e rfl) ?_
  rintro w ⟨h0g_17, h0k_18, hq_20, rfl⟩
  refine k_ws ((cO3_rrrrrrrr h0 xs xhn xht xhj xhm xhb xhs xhc) :: (cO8_iiri xhj 8 2 xhjc xhjn) :: (cAI g xhjc 16 xhjf) :: (cO8_iiri xhm 4 3 xhmc xhmn) :: (cAI g xhmc 12 xhmf) :: (cO8_iiri xhb 1 3 xhbc xhbn) :: (cAI g xhbc 3 xhbf) :: (cO8_iiri xhs 6 3 xhsc xhsn) :: (cAI g xhsc 18 xhsf) :: (cO8_iiri xhc 6 2 xhcc xhcn) :: (cAI g xhcc 12 xhcf) :: (cO3_rrrrrrrr h1 ys yhn yht yhj yhm yhb yhs yhc) :: (cO8_iiri yhj 8 2 yhjc yhjn) :: (cAI g yhjc 16 yhjf) :: (cO8_iiri yhm 4 3 yhmc yhmn) :: (cAI g yhmc 12 yhmf) :: (cO8_iiri yhb 1 3 yhbc yhbn) :: (cAI g yhbc 3 yhbf) :: (cO8_iiri yhs 6 3 yhsc yhsn) :: (cAI g yhsc 18 yhsf) :: (cO8_iiri yhc 6 2 yhcc yhcn) :: (cAI g yhcc 12 yhcf) :: (cO7_rrrrii xs xr xm xw xp xmd2_9 xtr2_10) :: (cO8_iiri xr 8 3 xrc xrk_5) :: (cAI g xrc 24 xrg_1) :: (cO8_iiri xm 12 3 xmc xmk_6) :: (cAI g xmc 36 xmg_2) :: (cO8_iiri xw 6 3 xwc xwk_7) :: (cAI g xwc 18 xwg_3) :: (cO8_iiri xp 8 2 xpc xpk_8) :: (cAI g xpc 16 xpg_4) :: (cO7_rrrrii ys yr ym yw yp ymd ytr) :: (cO8_iiri yr 8 3 yrc yrn) :: (cAI g yrc 24 yrf) :: (cO8_iiri ym 12 3 ymc ymn) :: (cAI g ymc 36 ymf) :: (cO8_iiri yw 6 3 ywc ywn) :: (cAI g ywc 18 ywf) :: (cO8_iiri yp 8 2 ypc ypn) :: (cAI g ypc 16 ypf) :: (cO8_iiri xhn 1 6 xhnc h0k_14) :: (cAI g xhnc 6 h0g_13) :: (cO8_iiri yhn 1 6 yhnc yhnn) :: (cAI g yhnc 6 yhnf) :: (cO8_iiri xht 4 1 xhtc h0k_18) :: (cAI g xhtc 4 h0g_17) :: (cO8_iiri yht 4 1 yhtc yhtn) :: (cAI g yhtc 4 yhtf) :: []) rfl ?_
  refine k_aload_n X dX3_copyFrom_k1.1.1.1.2 0 rfl ?_
  refine k_get (ci := 3) X inlX3 rfl 3 (nlt_e rfl) dX3_copyFrom_k1.1.1.2.1 mw81 0 rfl rfl ?_
  refine k_aload_n X dX3_copyFrom_k1.1.1.2.2 1 rfl ?_
  refine k_get (ci := 3) X inlX3 rfl 3 (nlt_e rfl) dX3_copyFrom_k1.1.2.1.1 mw81 11 rfl rfl ?_
  refine k_callVV (n := 1) (As := [.ref yhj]) (st := []) X [(cO8_iiri xhj 8 2 xhjc xhjn), (cAI g xhjc 16 xhjf), (cO8_iiri yhj 8 2 yhjc yhjn), (cAI g yhjc 16 yhjf)] ((cO3_rrrrrrrr h0 xs xhn xht xhj xhm xhb xhs xhc) :: (cO8_iiri xhm 4 3 xhmc xhmn) :: (cAI g xhmc 12 xhmf) :: (cO8_iiri xhb 1 3 xhbc xhbn) :: (cAI g xhbc 3 xhbf) :: (cO8_iiri xhs 6 3 xhsc xhsn) :: (cAI g xhsc 18 xhsf) :: (cO8_iiri xhc 6 2 xhcc xhcn) :: (cAI g xhcc 12 xhcf) :: (cO3_rrrrrrrr h1 ys yhn yht yhj yhm yhb yhs yhc) :: (cO8_iiri yhm 4 3 yhmc yhmn) :: (cAI g yhmc 12 yhmf) :: (cO8_iiri yhb 1 3 yhbc yhbn) :: (cAI g yhbc 3 yhbf) :: (cO8_iiri yhs 6 3 yhsc yhsn) :: (cAI g yhsc 18 yhsf) :: (cO8_iiri yhc 6 2 yhcc yhcn) :: (cAI g yhcc 12 yhcf) :: (cO7_rrrrii xs xr xm xw xp xmd2_9 xtr2_10) :: (cO8_iiri xr 8 3 xrc xrk_5) :: (cAI g xrc 24 xrg_1) :: (cO8_iiri xm 12 3 xmc xmk_6) :: (cAI g xmc 36 xmg_2) :: (cO8_iiri xw 6 3 xwc xwk_7) :: (cAI g xwc 18 xwg_3) :: (cO8_iiri xp 8 2 xpc xpk_8) :: (cAI g xpc 16 xpg_4) :: (cO7_rrrrii ys yr ym yw yp ymd ytr) :: (cO8_iiri yr 8 3 yrc yrn) :: (cAI g yrc 24 yrf) :: (cO8_iiri ym 12 3 ymc ymn) :: (cAI g ymc 36 ymf) :: (cO8_iiri yw 6 3 ywc ywn) :: (cAI g ywc 18 ywf) :: (cO8_iiri yp 8 2 ypc ypn) :: (cAI g ypc 16 ypf) :: (cO8_iiri xhn 1 6 xhnc h0k_14) :: (cAI g xhnc 6 h0g_13) :: (cO8_iiri yhn 1 6 yhnc yhnn) :: (cAI g yhnc 6 yhnf) :: (cO8_iiri xht 4 1 xhtc h0k_18) :: (cAI g xhtc 4 h0g_17) :: (cO8_iiri yht 4 1 yhtc yhtn) :: (cAI g yhtc 4 yhtf) :: []) [1, 2, 12, 13] [0, 3, 4, 5, 6, 7, 8, 9, 10, 11, 14, 15, 16, 17, 18, 19, 20, 21, 22, 23, 24, 25, 26, 27, 28, 29, 30, 31, 32, 33, 34, 35, 36, 37, 38, 39, 40, 41, 42, 43, 44, 45, 46, 47] (t_copyFrom8_2X l g xhj yhj xhjc xhjn xhjf yhjc yhjn yhjf) dX3_copyFrom_k1.1.2.1.2 mw454 mw447 mw448 mw64 mw449 rfl 8 rfl rfl 0 _ rfl yk_yX8_copyFrom_1 rfl (Nat.le_of_ble_eq_true rfl) (Nat.le_of_ble_eq_true rfl) (Nat.le_of_ble_eq_true rfl) (Nat.le_of_ble_eq_true rfl) (Nat.le_of_ble_eq_true rfl) rfl rfl (vnd_e rfl) rfl (vnd_e rfl) (dsj_e rfl) ?_
  rintro w ⟨h0g_21, h0k_22, hq_24, rfl⟩
  refine k_ws ((cO3_rrrrrrrr h0 xs xhn xht xhj xhm xhb xhs xhc) :: (cO8_iiri xhm 4 3 xhmc xhmn) :: (cAI g xhmc 12 xhmf) :: (cO8_iiri xhb 1 3 xhbc xhbn) :: (cAI g xhbc 3 xhbf) :: (cO8_iiri xhs 6 3 xhsc xhsn) :: (cAI g xhsc 18 xhsf) :: (cO8_iiri xhc 6 2 xhcc xhcn) :: (cAI g xhcc 12 xhcf) :: (cO3_rrrrrrrr h1 ys yhn yht yhj yhm yhb yhs yhc) :: (cO8_iiri yhm 4 3 yhmc yhmn) :: (cAI g yhmc 12 yhmf) :: (cO8_iiri yhb 1 3 yhbc yhbn) :: (cAI g yhbc 3 yhbf) :: (cO8_iiri yhs 6 3 yhsc yhsn) :: (cAI g yhsc 18 yhsf) :: (cO8_iiri yhc 6 2 yhcc yhcn) :: (cAI g yhcc 12 yhcf) :: (cO7_rrrrii xs xr xm xw xp xmd2_9 xtr2_10) :: (cO8_iiri xr 8 3 xrc xrk_5) :: (cAI g xrc 24 xrg_1) :: (cO8_iiri xm 12 3 xmc xmk_6) :: (cAI g xmc 36 xmg_2) :: (cO8_iiri xw 6 3 xwc xwk_7) :: (cAI g xwc 18 xwg_3) :: (cO8_iiri xp 8 2 xpc xpk_8) :: (cAI g xpc 16 xpg_4) :: (cO7_rrrrii ys yr ym yw yp ymd ytr) :: (cO8_iiri yr 8 3 yrc yrn) :: (cAI g yrc 24 yrf) :: (cO8_iiri ym 12 3 ymc ymn) :: (cAI g ymc 36 ymf) :: (cO8_iiri yw 6 3 ywc ywn) :: (cAI g ywc 18 ywf) :: (cO8_iiri yp 8 2 ypc ypn) :: (cAI g ypc 16 ypf) :: (cO8_iiri xhn 1 6 xhnc h0k_14) :: (cAI g xhnc 6 h0g_13) :: (cO8_iiri yhn 1 6 yhnc yhnn) :: (cAI g yhnc 6 yhnf) :: (cO8_iiri xht 4 1 xhtc h0k_18) :: (cAI g xhtc 4 h0g_17) :: (cO8_iiri yht 4 1 yhtc yhtn) :: (cAI g yhtc 4 yhtf) :: (cO8_iiri xhj 8 2 xhjc h0k_22) :: (cAI g xhjc 16 h0g_21) :: (cO8_iiri yhj 8 2 yhjc yhjn) :: (cAI g yhjc 16 yhjf) :: []) rfl ?_
  refine k_aload_n X dX3_copyFrom_k1.1.2.2.1 0 rfl ?_
  refine k_get (ci := 3) X inlX3 rfl 4 (nlt_e rfl) dX3_copyFrom_k1.1.2.2.2 mw82 0 rfl rfl ?_
  refine k_aload_n X dX3_copyFrom_k1.2.1.1.1 1 rfl ?_
  refine k_get (ci := 3) X inlX3 rfl 4 (nlt_e rfl) dX3_copyFrom_k1.2.1.1.2 mw82 9 rfl rfl ?_
  refine k_callVV (n := 1) (As := [.ref yhm]) (st := []) X [(cO8_iiri xhm 4 3 xhmc xhmn), (cAI g xhmc 12 xhmf), (cO8_iiri yhm 4 3 yhmc yhmn), (cAI g yhmc 12 yhmf)] ((cO3_rrrrrrrr h0 xs xhn xht xhj xhm xhb xhs xhc) :: (cO8_iiri xhb 1 3 xhbc xhbn) :: (cAI g xhbc 3 xhbf) :: (cO8_iiri xhs 6 3 xhsc xhsn) :: (cAI g xhsc 18 xhsf) :: (cO8_iiri xhc 6 2 xhcc xhcn) :: (cAI g xhcc 12 xhcf) :: (cO3_rrrrrrrr h1 ys yhn yht yhj yhm yhb yhs yhc) :: (cO8_iiri yhb 1 3 yhbc yhbn) :: (cAI g yhbc 3 yhbf) :: (cO8_iiri yhs 6 3 yhsc yhsn) :: (cAI g yhsc 18 yhsf) :: (cO8_iiri yhc 6 2 yhcc yhcn) :: (cAI g yhcc 12 yhcf) :: (cO7_rrrrii xs xr xm xw xp xmd2_9 xtr2_10) :: (cO8_iiri xr 8 3 xrc xrk_5) :: (cAI g xrc 24 xrg_1) :: (cO8_iiri xm 12 3 xmc xmk_6) :: (cAI g xmc 36 xmg_2) :: (cO8_iiri xw 6 3 xwc xwk_7) :: (cAI g xwc 18 xwg_3) :: (cO8_iiri xp 8 2 xpc xpk_8) :: (cAI g xpc 16 xpg_4) :: (cO7_rrrrii ys yr ym yw yp ymd ytr) :: (cO8_iiri yr 8 3 yrc yrn) :: (cAI g yrc 24 yrf) :: (cO8_iiri ym 12 3 ymc ymn) :: (cAI g ymc 36 ymf) :: (cO8_iiri yw 6 3 ywc ywn) :: (cAI g ywc 18 ywf) :: (cO8_iiri yp 8 2 ypc ypn) :: (cAI g ypc 16 ypf) :: (cO8_iiri xhn 1 6 xhnc h0k_14) :: (cAI g xhnc 6 h0g_13) :: (cO8_iiri yhn 1 6 yhnc yhnn) :: (cAI g yhnc 6 yhnf) :: (cO8_iiri xht 4 1 xhtc h0k_18) :: (cAI g xhtc 4 h0g_17) :: (cO8_iiri yht 4 1 yhtc yhtn) :: (cAI g yhtc 4 yhtf) :: (cO8_iiri xhj 8 2 xhjc h0k_22) :: (cAI g xhjc 16 h0g_21) :: (cO8_iiri yhj 8 2 yhjc yhjn) :: (cAI g yhjc 16 yhjf) :: []) [1, 2, 10, 11] [0, 3, 4, 5, 6, 7, 8, 9, 12, 13, 14, 15, 16, 17, 18, 19, 20, 21, 22, 23, 24, 25, 26, 27, 28, 29, 30, 31, 32, 33, 34, 35, 36, 37, 38, 39, 40, 41, 42, 43, 44, 45, 46, 47] (t_copyFrom4_3X l g xhm yhm xhmc xhmn xhmf yhmc yhmn yhmf) dX3_copyFrom_k1.2.1.2.1 mw454 mw447 mw448 mw64 mw449 rfl 8 rfl rfl 0 _ rfl yk_yX8_copyFrom_1 rfl (Nat.le_of_ble_eq_true rfl) (Nat.le_of_ble_eq_true rfl) (Nat.le_of_ble_eq_true rfl) (Nat.le_of_ble_eq_true rfl) (Nat.le_of_ble_eq_true rfl) rfl rfl (vnd_e rfl) rfl (vnd_e rfl) (dsj_e rfl) ?_
  rintro w ⟨h0g_25, h0k_26, hq_28, rfl⟩
  refine k_ws ((cO3_rrrrrrrr h0 xs xhn xht xhj xhm xhb xhs xhc) :: (cO8_iiri xhb 1 3 xhbc xhbn) :: (cAI g xhbc 3 xhbf) :: (cO8_iiri xhs 6 3 xhsc xhsn) :: (cAI g xhsc 18 xhsf) :: (cO8_iiri xhc 6 2 xhcc xhcn) :: (cAI g xhcc 12 xhcf) :: (cO3_rrrrrrrr h1 ys yhn yht yhj yhm yhb yhs yhc) :: (cO8_iiri yhb 1 3 yhbc yhbn) :: (cAI g yhbc 3 yhbf) :: (cO8_iiri yhs 6 3 yhsc yhsn) :: (cAI g yhsc 18 yhsf) :: (cO8_iiri yhc 6 2 yhcc yhcn) :: (cAI g yhcc 12 yhcf) :: (cO7_rrrrii xs xr xm xw xp xmd2_9 xtr2_10) :: (cO8_iiri xr 8 3 xrc xrk_5) :: (cAI g xrc 24 xrg_1) :: (cO8_iiri xm 12 3 xmc xmk_6) :: (cAI g xmc 36 xmg_2) :: (cO8_iiri xw 6 3 xwc xwk_7) :: (cAI g xwc 18 xwg_3) :: (cO8_iiri xp 8 2 xpc xpk_8) :: (cAI g xpc 16 xpg_4) :: (cO7_rrrrii ys yr ym yw yp ymd ytr) :: (cO8_iiri yr 8 3 yrc yrn) :: (cAI g yrc 24 yrf) :: (cO8_iiri ym 12 3 ymc ymn) :: (cAI g ymc 36 ymf) :: (cO8_iiri yw 6 3 ywc ywn) :: (cAI g ywc 18 ywf) :: (cO8_iiri yp 8 2 ypc ypn) :: (cAI g ypc 16 ypf) :: (cO8_iiri xhn 1 6 xhnc h0k_14) :: (cAI g xhnc 6 h0g_13) :: (cO8_iiri yhn 1 6 yhnc yhnn) :: (cAI g yhnc 6 yhnf) :: (cO8_iiri xht 4 1 xhtc h0k_18) :: (cAI g xhtc 4 h0g_17) :: (cO8_iiri yht 4 1 yhtc yhtn) :: (cAI g yhtc 4 yhtf) :: (cO8_iiri xhj 8 2 xhjc h0k_22) :: (cAI g xhjc 16 h0g_21) :: (cO8_iiri yhj 8 2 yhjc yhjn) :: (cAI g yhjc 16 yhjf) :: (cO8_iiri xhm 4 3 xhmc h0k_26) :: (cAI g xhmc 12 h0g_25) :: (cO8_iiri yhm 4 3 yhmc yhmn) :: (cAI g yhmc 12 yhmf) :: []) rfl ?_
  refine k_aload_n X dX3_copyFrom_k1.2.1.2.2 0 rfl ?_
  refine k_get (ci := 3) X inlX3 rfl 5 (nlt_e rfl) dX3_copyFrom_k1.2.2.1.1 mw83 0 rfl rfl ?_
  refine k_aload_n X dX3_copyFrom_k1.2.2.1.2 1 rfl ?_
  refine k_get (ci := 3) X inlX3 rfl 5 (nlt_e rfl) dX3_copyFrom_k1.2.2.2.1 mw83 7 rfl rfl ?_
  refine k_callVV (n := 1) (As := [.ref yhb]) (st := []) X [(cO8_iiri xhb 1 3 xhbc xhbn), (cAI g xhbc 3 xhbf), (cO8_iiri yhb 1 3 yhbc yhbn), (cAI g yhbc 3 yhbf)] ((cO3_rrrrrrrr h0 xs xhn xht xhj xhm xhb xhs xhc) :: (cO8_iiri xhs 6 3 xhsc xhsn) :: (cAI g xhsc 18 xhsf) :: (cO8_iiri xhc 6 2 xhcc xhcn) :: (cAI g xhcc 12 xhcf) :: (cO3_rrrrrrrr h1 ys yhn yht yhj yhm yhb yhs yhc) :: (cO8_iiri yhs 6 3 yhsc yhsn) :: (cAI g yhsc 18 yhsf) :: (cO8_iiri yhc 6 2 yhcc yhcn) :: (cAI g yhcc 12 yhcf) :: (cO7_rrrrii xs xr xm xw xp xmd2_9 xtr2_10) :: (cO8_iiri xr 8 3 xrc xrk_5) :: (cAI g xrc 24 xrg_1) :: (cO8_iiri xm 12 3 xmc xmk_6) :: (cAI g xmc 36 xmg_2) :: (cO8_iiri xw 6 3 xwc xwk_7) :: (cAI g xwc 18 xwg_3) :: (cO8_iiri xp 8 2 xpc xpk_8) :: (cAI g xpc 16 xpg_4) :: (cO7_rrrrii ys yr ym yw yp ymd ytr) :: (cO8_iiri yr 8 3 yrc yrn) :: (cAI g yrc 24 yrf) :: (cO8_iiri ym 12 3 ymc ymn) :: (cAI g ymc 36 ymf) :: (cO8_iiri yw 6 3 ywc ywn) :: (cAI g ywc 18 ywf) :: (cO8_iiri yp 8 2 ypc ypn) :: (cAI g ypc 16 ypf) :: (cO8_iiri xhn 1 6 xhnc h0k_14) :: (cAI g xhnc 6 h0g_13) :: (cO8_iiri yhn 1 6 yhnc yhnn) :: (cAI g yhnc 6 yhnf) :: (cO8_iiri xht 4 1 xhtc h0k_18) :: (cAI g xhtc 4 h0g_17) :: (cO8_iiri yht 4 1 yhtc yhtn) :: (cAI g yhtc 4 yhtf) :: (cO8_iiri xhj 8 2 xhjc h0k_22) :: (cAI g xhjc 16 h0g_21) :: (cO8_iiri yhj 8 2 yhjc yhjn) :: (cAI g yhjc 16 yhjf) :: (cO8_iiri xhm 4 3 xhmc h0k_26) :: (cAI g xhmc 12 h0g_25) :: (cO8_iiri yhm 4 3 yhmc yhmn) :: (cAI g yhmc 12 yhmf) :: []) [1, 2, 8, 9] [0, 3, 4, 5, 6, 7, 10, 11, 12, 13, 14, 15, 16, 17, 18, 19, 20, 21, 22, 23, 24, 25, 26, 27, 28, 29, 30, 31, 32, 33, 34, 35, 36, 37, 38, 39, 40, 41, 42, 43, 44, 45, 46, 47] (t_copyFrom1_3X l g xhb yhb xhbc xhbn xhbf yhbc yhbn yhbf) dX3_copyFrom_k1.2.2.2.2 mw454 mw447 mw448 mw64 mw449 rfl 8 rfl rfl 0 _ rfl yk_yX8_copyFrom_1 rfl (Nat.le_of_ble_eq_true rfl) (Nat.le_of_ble_eq_true rfl) (Nat.le_of_ble_eq_true rfl) (Nat.le_of_ble_eq_true rfl) (Nat.le_of_ble_eq_true rfl) rfl rfl (vnd_e rfl) rfl (vnd_e rfl) (dsj_e rfl) ?_
  rintro w ⟨h0g_29, h0k_30, hq_32, rfl⟩
  refine k_ws ((cO3_rrrrrrrr h0 xs xhn xht xhj xhm xhb xhs xhc) :: (cO8_iiri xhs 6 3 xhsc xhsn) :: (cAI g xhsc 18 xhsf) :: (cO8_iiri xhc 6 2 xhcc xhcn) :: (cAI g xhcc 12 xhcf) :: (cO3_rrrrrrrr h1 ys yhn yht yhj yhm yhb yhs yhc) :: (cO8_iiri yhs 6 3 yhsc yhsn) :: (cAI g yhsc 18 yhsf) :: (cO8_iiri yhc 6 2 yhcc yhcn) :: (cAI g yhcc 12 yhcf) :: (cO7_rrrrii xs xr xm xw xp xmd2_9 xtr2_10) :: (cO8_iiri xr 8 3 xrc xrk_5) :: (cAI g xrc 24 xrg_1) :: (cO8_iiri xm 12 3 xmc xmk_6) :: (cAI g xmc 36 xmg_2) :: (cO8_iiri xw 6 3 xwc xwk_7) :: (cAI g xwc 18 xwg_3) :: (cO8_iiri xp 8 2 xpc xpk_8) :: (cAI g xpc 16 xpg_4) :: (cO7_rrrrii ys yr ym yw yp ymd ytr) :: (cO8_iiri yr 8 3 yrc yrn) :: (cAI g yrc 24 yrf) :: (cO8_iiri ym 12 3 ymc ymn) :: (cAI g ymc 36 ymf) :: (cO8_iiri yw 6 3 ywc ywn) :: (cAI g ywc 18 ywf) :: (cO8_iiri yp 8 2 ypc ypn) :: (cAI g ypc 16 ypf) :: (cO8_iiri xhn 1 6 xhnc h0k_14) :: (cAI g xhnc 6 h0g_13) :: (cO8_iiri yhn 1 6 yhnc yhnn) :: (cAI g yhnc 6 yhnf) :: (cO8_iiri xht 4 1 xhtc h0k_18) :: (cAI g xhtc 4 h0g_17) :: (cO8_iiri yht 4 1 yhtc yhtn) :: (cAI g yhtc 4 yhtf) :: (cO8_iiri xhj 8 2 xhjc h0k_22) :: (cAI g xhjc 16 h0g_21) :: (cO8_iiri yhj 8 2 yhjc yhjn) :: (cAI g yhjc 16 yhjf) :: (cO8_iiri xhm 4 3 xhmc h0k_26) :: (cAI g xhmc 12 h0g_25) :: (cO8_iiri yhm 4 3 yhmc yhmn) :: (cAI g yhmc 12 yhmf) :: (cO8_iiri xhb 1 3 xhbc h0k_30) :: (cAI g xhbc 3 h0g_29) :: (cO8_iiri yhb 1 3 yhbc yhbn) :: (cAI g yhbc 3 yhbf) :: []) rfl ?_
  refine k_aload_n X dX3_copyFrom_k2.1.1.1 0 rfl ?_
  refine k_get (ci := 3) X inlX3 rfl 6 (nlt_e rfl) dX3_copyFrom_k2.1.1.2 mw84 0 rfl rfl ?_
  refine k_aload_n X dX3_copyFrom_k2.1.2.1 1 rfl ?_
  refine k_get (ci := 3) X inlX3 rfl 6 (nlt_e rfl) dX3_copyFrom_k2.1.2.2.1 mw84 5 rfl rfl ?_
  refine k_callVV (n := 1) (As := [.ref yhs]) (st := []) X [(cO8_iiri xhs 6 3 xhsc xhsn), (cAI g xhsc 18 xhsf), (cO8_iiri yhs 6 3 yhsc yhsn), (cAI g yhsc 18 yhsf)] ((cO3_rrrrrrrr h0 xs xhn xht xhj xhm xhb xhs xhc) :: (cO8_iiri xhc 6 2 xhcc xhcn) :: (cAI g xhcc 12 xhcf) :: (cO3_rrrrrrrr h1 ys yhn yht yhj yhm yhb yhs yhc) :: (cO8_iiri yhc 6 2 yhcc yhcn) :: (cAI g yhcc 12 yhcf) :: (cO7_rrrrii xs xr xm xw xp xmd2_9 xtr2_10) :: (cO8_iiri xr 8 3 xrc xrk_5) :: (cAI g xrc 24 xrg_1) :: (cO8_iiri xm 12 3 xmc xmk_6) :: (cAI g xmc 36 xmg_2) :: (cO8_iiri xw 6 3 xwc xwk_7) :: (cAI g xwc 18 xwg_3) :: (cO8_iiri xp 8 2 xpc xpk_8) :: (cAI g xpc 16 xpg_4) :: (cO7_rrrrii ys yr ym yw yp ymd ytr) :: (cO8_iiri yr 8 3 yrc yrn) :: (cAI g yrc 24 yrf) :: (cO8_iiri ym 12 3 ymc ymn) :: (cAI g ymc 36 ymf) :: (cO8_iiri yw 6 3 ywc ywn) :: (cAI g ywc 18 ywf) :: (cO8_iiri yp 8 2 ypc ypn) :: (cAI g ypc 16 ypf) :: (cO8_iiri xhn 1 6 xhnc h0k_14) :: (cAI g xhnc 6 h0g_13) :: (cO8_iiri yhn 1 6 yhnc yhnn) :: (cAI g yhnc 6 yhnf) :: (cO8_iiri xht 4 1 xhtc h0k_18) :: (cAI g xhtc 4 h0g_17) :: (cO8_iiri yht 4 1 yhtc yhtn) :: (cAI g yhtc 4 yhtf) :: (cO8_iiri xhj 8 2 xhjc h0k_22) :: (cAI g xhjc 16 h0g_21) :: (cO8_iiri yhj 8 2 yhjc yhjn) :: (cAI g yhjc 16 yhjf) :: (cO8_iiri xhm 4 3 xhmc h0k_26) :: (cAI g xhmc 12 h0g_25) :: (cO8_iiri yhm 4 3 yhmc yhmn) :: (cAI g yhmc 12 yhmf) :: (cO8_iiri xhb 1 3 xhbc h0k_30) :: (cAI g xhbc 3 h0g_29) :: (cO8_iiri yhb 1 3 yhbc yhbn) :: (cAI g yhbc 3 yhbf) :: []) [1, 2, 6, 7] [0, 3, 4, 5, 8, 9, 10, 11, 12, 13, 14, 15, 16, 17, 18, 19, 20, 21, 22, 23, 24, 25, 26, 27, 28, 29, 30, 31, 32, 33, 34, 35, 36, 37, 38, 39, 40, 41, 42, 43, 44, 45, 46, 47] (t_copyFrom6_3X l g xhs yhs xhsc xhsn xhsf yhsc yhsn yhsf) dX3_copyFrom_k2.1.2.2.2 mw454 mw447 mw448 mw64 mw449 rfl 8 rfl rfl 0 _ rfl yk_yX8_copyFrom_1 rfl (Nat.le_of_ble_eq_true rfl) (Nat.le_of_ble_eq_true rfl) (Nat.le_of_ble_eq_true rfl) (Nat.le_of_ble_eq_true rfl) (Nat.le_of_ble_eq_true rfl) rfl rfl (vnd_e rfl) rfl (vnd_e rfl) (dsj_e rfl) ?_
  rintro w ⟨h0g_33, h0k_34, hq_36, rfl⟩
  refine k_ws ((cO3_rrrrrrrr h0 xs xhn xht xhj xhm xhb xhs xhc) :: (cO8_iiri xhc 6 2 xhcc xhcn) :: (cAI g xhcc 12 xhcf) :: (cO3_rrrrrrrr h1 ys yhn yht yhj yhm yhb yhs yhc) :: (cO8_iiri yhc 6 2 yhcc yhcn) :: (cAI g yhcc 12 yhcf) :: (cO7_rrrrii xs xr xm xw xp xmd2_9 xtr2_10) :: (cO8_iiri xr 8 3 xrc xrk_5) :: (cAI g xrc 24 xrg_1) :: (cO8_iiri xm 12 3 xmc xmk_6) :: (cAI g xmc 36 xmg_2) :: (cO8_iiri xw 6 3 xwc xwk_7) :: (cAI g xwc 18 xwg_3) :: (cO8_iiri xp 8 2 xpc xpk_8) :: (cAI g xpc 16 xpg_4) :: (cO7_rrrrii ys yr ym yw yp ymd ytr) :: (cO8_iiri yr 8 3 yrc yrn) :: (cAI g yrc 24 yrf) :: (cO8_iiri ym 12 3 ymc ymn) :: (cAI g ymc 36 ymf) :: (cO8_iiri yw 6 3 ywc ywn) :: (cAI g ywc 18 ywf) :: (cO8_iiri yp 8 2 ypc ypn) :: (cAI g ypc 16 ypf) :: (cO8_iiri xhn 1 6 xhnc h0k_14) :: (cAI g xhnc 6 h0g_13) :: (cO8_iiri yhn 1 6 yhnc yhnn) :: (cAI g yhnc 6 yhnf) :: (cO8_iiri xht 4 1 xhtc h0k_18) :: (cAI g xhtc 4 h0g_17) :: (cO8_iiri yht 4 1 yhtc yhtn) :: (cAI g yhtc 4 yhtf) :: (cO8_iiri xhj 8 2 xhjc h0k_22) :: (cAI g xhjc 16 h0g_21) :: (cO8_iiri yhj 8 2 yhjc yhjn) :: (cAI g yhjc 16 yhjf) :: (cO8_iiri xhm 4 3 xhmc h0k_26) :: (cAI g xhmc 12 h0g_25) :: (cO8_iiri yhm 4 3 yhmc yhmn) :: (cAI g yhmc 12 yhmf) :: (cO8_iiri xhb 1 3 xhbc h0k_30) :: (cAI g xhbc 3 h0g_29) :: (cO8_iiri yhb 1 3 yhbc yhbn) :: (cAI g yhbc 3 yhbf) :: (cO8_iiri xhs 6 3 xhsc h0k_34) :: (cAI g xhsc 18 h0g_33) :: (cO8_iiri yhs 6 3 yhsc yhsn) :: (cAI g yhsc 18 yhsf) :: []) rfl ?_
  refine k_aload_n X dX3_copyFrom_k2.2.1.1 0 rfl ?_
  refine k_get (ci := 3) X inlX3 rfl 7 (nlt_e rfl) dX3_copyFrom_k2.2.1.2.1 mw85 0 rfl rfl ?_
  refine k_aload_n X dX3_copyFrom_k2.2.1.2.2 1 rfl ?_
  refine k_get (ci := 3) X inlX3 rfl 7 (nlt_e rfl) dX3_copyFrom_k2.2.2.1 mw85 3 rfl rfl ?_
  refine k_callVV (n := 1) (As := [.ref yhc]) (st := []) X [(cO8_iiri xhc 6 2 xhcc xhcn), (cAI g xhcc 12 xhcf), (cO8_iiri yhc 6 2 yhcc yhcn), (cAI g yhcc 12 yhcf)] ((cO3_rrrrrrrr h0 xs xhn xht xhj xhm xhb xhs xhc) :: (cO3_rrrrrrrr h1 ys yhn yht yhj yhm yhb yhs yhc) :: (cO7_rrrrii xs xr xm xw xp xmd2_9 xtr2_10) :: (cO8_iiri xr 8 3 xrc xrk_5) :: (cAI g xrc 24 xrg_1) :: (cO8_iiri xm 12 3 xmc xmk_6) :: (cAI g xmc 36 xmg_2) :: (cO8_iiri xw 6 3 xwc xwk_7) :: (cAI g xwc 18 xwg_3) :: (cO8_iiri xp 8 2 xpc xpk_8) :: (cAI g xpc 16 xpg_4) :: (cO7_rrrrii ys yr ym yw yp ymd ytr) :: (cO8_iiri yr 8 3 yrc yrn) :: (cAI g yrc 24 yrf) :: (cO8_iiri ym 12 3 ymc ymn) :: (cAI g ymc 36 ymf) :: (cO8_iiri yw 6 3 ywc ywn) :: (cAI g ywc 18 ywf) :: (cO8_iiri yp 8 2 ypc ypn) :: (cAI g ypc 16 ypf) :: (cO8_iiri xhn 1 6 xhnc h0k_14) :: (cAI g xhnc 6 h0g_13) :: (cO8_iiri yhn 1 6 yhnc yhnn) :: (cAI g yhnc 6 yhnf) :: (cO8_iiri xht 4 1 xhtc h0k_18) :: (cAI g xhtc 4 h0g_17) :: (cO8_iiri yht 4 1 yhtc yhtn) :: (cAI g yhtc 4 yhtf) :: (cO8_iiri xhj 8 2 xhjc h0k_22) :: (cAI g xhjc 16 h0g_21) :: (cO8_iiri yhj 8 2 yhjc yhjn) :: (cAI g yhjc 16 yhjf) :: (cO8_iiri xhm 4 3 xhmc h0k_26) :: (cAI g xhmc 12 h0g_25) :: (cO8_iiri yhm 4 3 yhmc yhmn) :: (cAI g yhmc 12 yhmf) :: (cO8_iiri xhb 1 3 xhbc h0k_30) :: (cAI g xhbc 3 h0g_29) :: (cO8_iiri yhb 1 3 yhbc yhbn) :: (cAI g yhbc 3 yhbf) :: (cO8_iiri xhs 6 3 xhsc h0k_34) :: (cAI g xhsc 18 h0g_33) :: (cO8_iiri yhs 6 3 yhsc yhsn) :: (cAI g yhsc 18 yhsf) :: []) [1, 2, 4, 5] [0, 3, 6, 7, 8, 9, 10, 11, 12, 13, 14, 15, 16, 17, 18, 19, 20, 21, 22, 23, 24, 25, 26, 27, 28, 29, 30, 31, 32, 33, 34, 35, 36, 37, 38, 39, 40, 41, 42, 43, 44, 45, 46, 47] (t_copyFrom6_2X l g xhc yhc xhcc xhcn xhcf yhcc yhcn yhcf) dX3_copyFrom_k2.2.2.2.1 mw454 mw447 mw448 mw64 mw449 rfl 8 rfl rfl 0 _ rfl yk_yX8_copyFrom_1 rfl (Nat.le_of_ble_eq_true rfl) (Nat.le_of_ble_eq_true rfl) (Nat.le_of_ble_eq_true rfl) (Nat.le_of_ble_eq_true rfl) (Nat.le_of_ble_eq_true rfl) rfl rfl (vnd_e rfl) rfl (vnd_e rfl) (dsj_e rfl) ?_
  rintro w ⟨h0g_37, h0k_38, hq_40, rfl⟩
  refine k_ws ((cO3_rrrrrrrr h0 xs xhn xht xhj xhm xhb xhs xhc) :: (cO3_rrrrrrrr h1 ys yhn yht yhj yhm yhb yhs yhc) :: (cO7_rrrrii xs xr xm xw xp xmd2_9 xtr2_10) :: (cO8_iiri xr 8 3 xrc xrk_5) :: (cAI g xrc 24 xrg_1) :: (cO8_iiri xm 12 3 xmc xmk_6) :: (cAI g xmc 36 xmg_2) :: (cO8_iiri xw 6 3 xwc xwk_7) :: (cAI g xwc 18 xwg_3) :: (cO8_iiri xp 8 2 xpc xpk_8) :: (cAI g xpc 16 xpg_4) :: (cO7_rrrrii ys yr ym yw yp ymd ytr) :: (cO8_iiri yr 8 3 yrc yrn) :: (cAI g yrc 24 yrf) :: (cO8_iiri ym 12 3 ymc ymn) :: (cAI g ymc 36 ymf) :: (cO8_iiri yw 6 3 ywc ywn) :: (cAI g ywc 18 ywf) :: (cO8_iiri yp 8 2 ypc ypn) :: (cAI g ypc 16 ypf) :: (cO8_iiri xhn 1 6 xhnc h0k_14) :: (cAI g xhnc 6 h0g_13) :: (cO8_iiri yhn 1 6 yhnc yhnn) :: (cAI g yhnc 6 yhnf) :: (cO8_iiri xht 4 1 xhtc h0k_18) :: (cAI g xhtc 4 h0g_17) :: (cO8_iiri yht 4 1 yhtc yhtn) :: (cAI g yhtc 4 yhtf) :: (cO8_iiri xhj 8 2 xhjc h0k_22) :: (cAI g xhjc 16 h0g_21) :: (cO8_iiri yhj 8 2 yhjc yhjn) :: (cAI g yhjc 16 yhjf) :: (cO8_iiri xhm 4 3 xhmc h0k_26) :: (cAI g xhmc 12 h0g_25) :: (cO8_iiri yhm 4 3 yhmc yhmn) :: (cAI g yhmc 12 yhmf) :: (cO8_iiri xhb 1 3 xhbc h0k_30) :: (cAI g xhbc 3 h0g_29) :: (cO8_iiri yhb 1 3 yhbc yhbn) :: (cAI g yhbc 3 yhbf) :: (cO8_iiri xhs 6 3 xhsc h0k_34) :: (cAI g xhsc 18 h0g_33) :: (cO8_iiri yhs 6 3 yhsc yhsn) :: (cAI g yhsc 18 yhsf) :: (cO8_iiri xhc 6 2 xhcc h0k_38) :: (cAI g xhcc 12 h0g_37) :: (cO8_iiri yhc 6 2 yhcc yhcn) :: (cAI g yhcc 12 yhcf) :: []) rfl ?_
  exact k_vret X hr dX3_copyFrom_k2.2.2.2.2 (Nat.le_of_ble_eq_true rfl) (Nat.le_of_ble_eq_true rfl) [0, 2, 3, 4, 5, 6, 7, 8, 9, 10, 20, 21, 24, 25, 28, 29, 32, 33, 36, 37, 40, 41, 44, 45, 1, 11, 12, 13, 14, 15, 16, 17, 18, 19, 22, 23, 26, 27, 30, 31, 34, 35, 38, 39, 42, 43, 46, 47] (vnd_e rfl) rfl rfl (exI12 xrg_1 xmg_2 xwg_3 xpg_4 xrk_5 xmk_6 xwk_7 xpk_8 xmd2_9 xtr2_10 h0g_13 h0g_17 (exI12 h0g_21 h0g_25 h0g_29 h0g_33 h0g_37 h0k_14 h0k_18 h0k_22 h0k_26 h0k_30 h0k_34 h0k_38 ⟨(exI10 xrg_1 xmg_2 xwg_3 xpg_4 xrk_5 xmk_6 xwk_7 xpk_8 xmd2_9 xtr2_10 ⟨hq_12, ⟨h0g_13, h0k_14, hq_16, ⟨h0g_17, h0k_18, hq_20, ⟨h0g_21, h0k_22, hq_24, ⟨h0g_25, h0k_26, hq_28, ⟨h0g_29, h0k_30, hq_32, ⟨h0g_33, h0k_34, hq_36, ⟨h0g_37, h0k_38, hq_40, ⟨rfl, rfl, rfl, rfl, rfl, rfl, rfl, rfl, rfl, rfl, rfl, rfl, rfl, rfl, rfl, rfl, rfl, rfl, rfl, rfl, rfl, rfl, rfl, rfl⟩⟩⟩⟩⟩⟩⟩⟩⟩), rfl⟩))


set_option maxHeartbeats 4000000 in
set_option maxRecDepth 100000 in
theorem c_refuseX (l : Launch) (g : Gx) (h0 : Nat) (p0 : Int32) (v0h0 : Value) (v1h0 : Value) (v2h0 : Value) (v3h0 : Value) (v4h0 : Value) (v5h0 : Value) (v6h0 : Value) (v7h0 : Value) (v8h0 : Value) (tr : Int32) : cI l g yX10_refuse cX10_refuse 2 (some .int) 0 0 0 0 [.ref h0, .int p0] [(cO10_vvvvvvvvvi h0 v0h0 v1h0 v2h0 v3h0 v4h0 v5h0 v6h0 v7h0 v8h0 tr)] (fun r w => ∃ (tr2 : Int32), (R_c_refuseX p0 tr2 r) ∧ w = [(cO10_vvvvvvvvvi h0 v0h0 v1h0 v2h0 v3h0 v4h0 v5h0 v6h0 v7h0 v8h0 tr2)]) := by
  refine cI.of (by decide) (Nat.le_of_ble_eq_true rfl) ?_
  intro p e s m args below meth c A X hr hi
  refine k_lveq [(0, .ref h0), (1, .int p0)] rfl ?_
  refine k_aload_n X dX10_refuse_k0.1.1 0 rfl ?_
  refine k_iload_n X dX10_refuse_k0.1.2 1 rfl ?_
  refine k_put (ci := 10) [(cO10_vvvvvvvvvi h0 v0h0 v1h0 v2h0 v3h0 v4h0 v5h0 v6h0 v7h0 v8h0 p0)] X inlX10 rfl tyX10_ok nmX10 9 (nlt_e rfl) rfl dX10_refuse_k0.2.1 mw49 0 rfl rfl rfl (Nat.le_of_ble_eq_true rfl) rfl ?_
  refine k_iconst (v := -1) X dX10_refuse_k0.2.2.1 ic_m1 ?_
  exact k_iret X hr dX10_refuse_k0.2.2.2 (Nat.le_of_ble_eq_true rfl) (Nat.le_of_ble_eq_true rfl) [0] (vnd_e rfl) rfl rfl ⟨p0, ⟨rfl, rfl⟩, rfl⟩


set_option maxHeartbeats 4000000 in
set_option maxRecDepth 100000 in
theorem c_tellX (l : Launch) (g : Gx) (h0 : Nat) (p0 : Int32) (v0h0 : Value) (v1h0 : Value) (v2h0 : Value) (v3h0 : Value) (v4h0 : Value) (v5h0 : Value) (v6h0 : Value) (v7h0 : Value) (v8h0 : Value) (tr : Int32) : cI l g yX10_tell cX10_tell 2 (some .int) 0 0 0 0 [.ref h0, .int p0] [(cO10_vvvvvvvvvi h0 v0h0 v1h0 v2h0 v3h0 v4h0 v5h0 v6h0 v7h0 v8h0 tr)] (fun r w => ∃ (tr2 : Int32), (R_c_tellX p0 tr2 r) ∧ w = [(cO10_vvvvvvvvvi h0 v0h0 v1h0 v2h0 v3h0 v4h0 v5h0 v6h0 v7h0 v8h0 tr2)]) := by
  refine cI.of (by decide) (Nat.le_of_ble_eq_true rfl) ?_
  intro p e s m args below meth c A X hr hi
  refine k_lveq [(0, .ref h0), (1, .int p0)] rfl ?_
  refine k_aload_n X dX10_tell_k0.1.1 0 rfl ?_
  refine k_iconst (v := 0) X dX10_tell_k0.1.2 ic_0 ?_
  refine k_put (ci := 10) [(cO10_vvvvvvvvvi h0 v0h0 v1h0 v2h0 v3h0 v4h0 v5h0 v6h0 v7h0 v8h0 0)] X inlX10 rfl tyX10_ok nmX10 9 (nlt_e rfl) rfl dX10_tell_k0.2.1 mw49 0 rfl rfl rfl (Nat.le_of_ble_eq_true rfl) rfl ?_
  refine k_iload_n X dX10_tell_k0.2.2.1 1 rfl ?_
  exact k_iret X hr dX10_tell_k0.2.2.2 (Nat.le_of_ble_eq_true rfl) (Nat.le_of_ble_eq_true rfl) [0] (vnd_e rfl) rfl rfl ⟨0, ⟨rfl, rfl⟩, rfl⟩


set_option maxHeartbeats 4000000 in
set_option maxRecDepth 100000 in
theorem x_refuseAtX (l : Launch) (g : Gx) (h0 : Nat) (p0 : Int32) (p1 : Int32) (xtpd : Int32) (th : Nat) (xfn : Int32) (xfp : Int32) (tp : Nat) (xen : Int32) (nm : Nat) (nd : Nat) (xkd : Int32) (xsta : Int32) (xpo : Int32) (xva : Int32) (xle : Int64) (xtk : Int32) (xta : Int32) (tpf : Nat → Int32) : cI l g yX9_refuseAt cX9_refuseAt 3 (some .boolean) 0 0 0 0 [.ref h0, .int p0, .int p1] [(cO9_i1r1i2r1i1r2i4l1i2 h0 xtpd th xfn xfp tp xen nm nd xkd xsta xpo xva xle xtk xta), (cAB g tp 900 tpf)] (fun r w => ∃ (xfn2 : Int32) (xfp2 : Int32), IV r 0 0 ∧ (R_x_refuseAtX p0 p1 xfn2 xfp2 r) ∧ w = [(cO9_i1r1i2r1i1r2i4l1i2 h0 xtpd th xfn2 xfp2 tp xen nm nd xkd xsta xpo xva xle xtk xta), (cAB g tp 900 tpf)]) := by
  refine cI.of (by decide) (Nat.le_of_ble_eq_true rfl) ?_
  intro p e s m args below meth c A X hr hi
  refine k_lveq [(0, .ref h0), (1, .int p0), (2, .int p1)] rfl ?_
  refine k_aload_n X dX9_refuseAt_k0.1.1.1 0 rfl ?_
  refine k_iload_n X dX9_refuseAt_k0.1.1.2 1 rfl ?_
  refine k_put (ci := 9) [(cO9_i1r1i2r1i1r2i4l1i2 h0 xtpd th p0 xfp tp xen nm nd xkd xsta xpo xva xle xtk xta), (cAB g tp 900 tpf)] X inlX9 rfl tyX9_ok nmX9 2 (nlt_e rfl) rfl dX9_refuseAt_k0.1.2.1 mw56 0 rfl rfl rfl (Nat.le_of_ble_eq_true rfl) rfl ?_
  refine k_aload_n X dX9_refuseAt_k0.1.2.2 0 rfl ?_
  refine k_iload_n X dX9_refuseAt_k0.2.1.1 2 rfl ?_
  refine k_put (ci := 9) [(cO9_i1r1i2r1i1r2i4l1i2 h0 xtpd th p0 p1 tp xen nm nd xkd xsta xpo xva xle xtk xta), (cAB g tp 900 tpf)] X inlX9 rfl tyX9_ok nmX9 3 (nlt_e rfl) rfl dX9_refuseAt_k0.2.1.2 mw57 0 rfl rfl rfl (Nat.le_of_ble_eq_true rfl) rfl ?_
  refine k_iconst (v := 0) X dX9_refuseAt_k0.2.2.1 ic_0 ?_
  exact k_zret X hr (by first | rfl | decide) dX9_refuseAt_k0.2.2.2 (Nat.le_of_ble_eq_true rfl) (Nat.le_of_ble_eq_true rfl) [0, 1] (vnd_e rfl) rfl rfl ⟨p0, p1, (iv_w iq_0_0_0 (zle_e rfl) (zle_e rfl)), ⟨rfl, rfl, rfl⟩, rfl⟩


set_option maxHeartbeats 4000000 in
set_option maxRecDepth 100000 in
theorem x_kindAtX (l : Launch) (g : Gx) (h0 : Nat) (p0 : Int32) (xtpd : Int32) (th : Nat) (xfn : Int32) (xfp : Int32) (tp : Nat) (xen : Int32) (nm : Nat) (nd : Nat) (xkd : Int32) (xsta : Int32) (xpo : Int32) (xva : Int32) (xle : Int64) (xtk : Int32) (xta : Int32) (tpf : Nat → Int32) : cI l g yX9_kindAt cX9_kindAt 3 (some .int) 0 0 0 0 [.ref h0, .int p0] [(cO9_i1r1i2r1i1r2i4l1i2 h0 xtpd th xfn xfp tp xen nm nd xkd xsta xpo xva xle xtk xta), (cAB g tp 900 tpf)] (fun r w => IV r 0 6 ∧ (r = 0 ∨ p0.toInt < xen.toInt) ∧ (R_x_kindAtX p0 xen tpf r) ∧ w = [(cO9_i1r1i2r1i1r2i4l1i2 h0 xtpd th xfn xfp tp xen nm nd xkd xsta xpo xva xle xtk xta), (cAB g tp 900 tpf)]) := by
  refine cI.of (by decide) (Nat.le_of_ble_eq_true rfl) ?_
  intro p e s m args below meth c A X hr hi
  refine k_lveq [(0, .ref h0), (1, .int p0)] rfl ?_
  refine k_iload_n X dX9_kindAt_k0.1.1.1.1 1 rfl ?_
  refine k_if_lt 21 X dX9_kindAt_k0.1.1.1.2 (jp_e rfl) (fun h_1 => ?_) (fun h_1 => ?_)
  · skip
    have j_2 : p0.toInt < 0 := iv_lt h_1
    have iv_3 : IV p0 (-2147483648) (-1) := iv_ltL (iv_lt h_1) (iv_any p0) iq_0_0_0 (zle_e rfl)
    refine k_iconst (v := 0) X dX9_kindAt_k0.2.1.2.2 ic_0 ?_
    exact k_iret X hr dX9_kindAt_k0.2.2.1.1 (Nat.le_of_ble_eq_true rfl) (Nat.le_of_ble_eq_true rfl) [0, 1] (vnd_e rfl) rfl rfl ⟨(iv_w iq_0_0_0 (zle_e rfl) (zle_e rfl)), (by first | exact Or.inl rfl | exact Or.inr (by omega)), (Or.inl ⟨h_1, rfl⟩), rfl⟩
  · skip
    have j_4 : 0 ≤ p0.toInt := iv_nlt h_1
    have iv_5 : IV p0 0 2147483647 := iv_leR (iv_nlt h_1) iq_0_0_0 (iv_any p0) (zle_e rfl)
    refine k_iload_n X dX9_kindAt_k0.1.1.2.1 1 rfl ?_
    refine k_aload_n X dX9_kindAt_k0.1.1.2.2 0 rfl ?_
    refine k_get (ci := 9) X inlX9 rfl 5 (nlt_e rfl) dX9_kindAt_k0.1.2.1.1 mw60 0 rfl rfl ?_
    refine k_ic_ge 21 X dX9_kindAt_k0.1.2.1.2 (jp_e rfl) (fun h_6 => ?_) (fun h_6 => ?_)
    · skip
      have j_7 : xen.toInt ≤ p0.toInt := iv_le h_6
      refine k_iconst (v := 0) X dX9_kindAt_k0.2.1.2.2 ic_0 ?_
      exact k_iret X hr dX9_kindAt_k0.2.2.1.1 (Nat.le_of_ble_eq_true rfl) (Nat.le_of_ble_eq_true rfl) [0, 1] (vnd_e rfl) rfl rfl ⟨(iv_w iq_0_0_0 (zle_e rfl) (zle_e rfl)), (by first | exact Or.inl rfl | exact Or.inr (by omega)), (Or.inr ⟨h_1, (Or.inl ⟨h_6, rfl⟩)⟩), rfl⟩
    · skip
      have j_8 : p0.toInt < xen.toInt := iv_nle h_6
      have iv_9 : IV p0 0 2147483646 := iv_ltL (iv_nle h_6) iv_5 (iv_any xen) (zle_e rfl)
      have iv_10 : IV xen 1 2147483647 := iv_ltR (iv_nle h_6) iv_5 (iv_any xen) (zle_e rfl)
      refine k_iload_n X dX9_kindAt_k0.1.2.2.1 1 rfl ?_
      refine k_aload_n X dX9_kindAt_k0.1.2.2.2 0 rfl ?_
      refine k_get (ci := 9) X inlX9 rfl 4 (nlt_e rfl) dX9_kindAt_k0.2.1.1.1 mw59 0 rfl rfl ?_
      refine k_alen 900 0 X dX9_kindAt_k0.2.1.1.2 1 rfl rfl (by show Int32.ofNat 900 = 900; decide) ?_
      refine k_ic_lt 23 X dX9_kindAt_k0.2.1.2.1 (jp_e rfl) (fun h_11 => ?_) (fun h_11 => ?_)
      · skip
        have j_12 : p0.toInt < 900 := iv_lt h_11
        have iv_13 : IV p0 0 899 := iv_ltL (iv_lt h_11) iv_9 iq_900_900_900 (zle_e rfl)
        refine k_aload_n X dX9_kindAt_k0.2.2.1.2 0 rfl ?_
        refine k_get (ci := 9) X inlX9 rfl 4 (nlt_e rfl) dX9_kindAt_k0.2.2.2.1 mw59 0 rfl rfl ?_
        refine k_iload_n X dX9_kindAt_k0.2.2.2.2 1 rfl ?_
        refine k_bald X dX9_kindAt_k1.1.1.1.1 1 rfl (iv_in iv_13 (zle_e rfl) (zle_l rfl)) ?_
        refine k_nm (fun z_14 ez_14 => ?_)
        refine k_istore_n [(2, .int z_14), (0, .ref h0), (1, .int p0)] X dX9_kindAt_k1.1.1.1.2 (nlt_e rfl) rfl ?_
        refine k_iload_n X dX9_kindAt_k1.1.1.2.1 0 rfl ?_
        refine k_bipush (v := 97) X dX9_kindAt_k1.1.1.2.2 bi_97 ?_
        refine k_ic_lt 44 X dX9_kindAt_k1.1.2.1.1 (jp_e rfl) (fun h_15 => ?_) (fun h_15 => ?_)
        · skip
          have j_16 : z_14.toInt < 97 := iv_lt h_15
          have iv_17 : IV z_14 (-2147483648) 96 := iv_ltL (iv_lt h_15) (iv_any z_14) iq_97_97_97 (zle_e rfl)
          refine k_iload_n X dX9_kindAt_k1.2.1.2.1 0 rfl ?_
          refine k_bipush (v := 48) X dX9_kindAt_k1.2.1.2.2 bi_48 ?_
          refine k_ic_lt 58 X dX9_kindAt_k1.2.2.1.1 (jp_e rfl) (fun h_18 => ?_) (fun h_18 => ?_)
          · skip
            have j_19 : z_14.toInt < 48 := iv_lt h_18
            have iv_20 : IV z_14 (-2147483648) 47 := iv_ltL (iv_lt h_18) iv_17 iq_48_48_48 (zle_e rfl)
            refine k_iload_n X dX9_kindAt_k2.1.2.1 0 rfl ?_
            by_cases h_21 : z_14 = 32
            · skip
              refine k_lookup 92 X dX9_kindAt_59 (by decide) (off := 33) (by rw [h_21]; decide) (by decide) ?_
              refine k_iconst (v := 5) X dX9_kindAt_k2.1.2.2.1 ic_5 ?_
              exact k_iret X hr dX9_kindAt_k2.1.2.2.2 (Nat.le_of_ble_eq_true rfl) (Nat.le_of_ble_eq_true rfl) [0, 1] (vnd_e rfl) rfl rfl ⟨(iv_w iq_5_5_5 (zle_e rfl) (zle_e rfl)), (by first | exact Or.inl rfl | exact Or.inr (by omega)), (Or.inr ⟨h_1, (Or.inr ⟨h_6, (Or.inl ⟨h_11, ⟨z_14, ez_14, (Or.inl ⟨h_15, (Or.inl ⟨h_18, (Or.inl ⟨h_21, rfl⟩)⟩)⟩)⟩⟩)⟩)⟩), rfl⟩
            by_cases h_22 : z_14 = 44
            · skip
              refine k_lookup 96 X dX9_kindAt_59 (by decide) (off := 37) (by rw [h_22]; decide) (by decide) ?_
              refine k_iconst (v := 4) X dX9_kindAt_k2.2.1.2.2 ic_4 ?_
              exact k_iret X hr dX9_kindAt_k2.2.2.1 (Nat.le_of_ble_eq_true rfl) (Nat.le_of_ble_eq_true rfl) [0, 1] (vnd_e rfl) rfl rfl ⟨(iv_w iq_4_4_4 (zle_e rfl) (zle_e rfl)), (by first | exact Or.inl rfl | exact Or.inr (by omega)), (Or.inr ⟨h_1, (Or.inr ⟨h_6, (Or.inl ⟨h_11, ⟨z_14, ez_14, (Or.inl ⟨h_15, (Or.inl ⟨h_18, (Or.inr ⟨h_21, (Or.inl ⟨h_22, rfl⟩)⟩)⟩)⟩)⟩⟩)⟩)⟩), rfl⟩
            by_cases h_23 : z_14 = 59
            · skip
              refine k_lookup 94 X dX9_kindAt_59 (by decide) (off := 35) (by rw [h_23]; decide) (by decide) ?_
              refine k_iconst (v := 3) X dX9_kindAt_k2.2.1.1 ic_3 ?_
              exact k_iret X hr dX9_kindAt_k2.2.1.2.1 (Nat.le_of_ble_eq_true rfl) (Nat.le_of_ble_eq_true rfl) [0, 1] (vnd_e rfl) rfl rfl ⟨(iv_w iq_3_3_3 (zle_e rfl) (zle_e rfl)), (by first | exact Or.inl rfl | exact Or.inr (by omega)), (Or.inr ⟨h_1, (Or.inr ⟨h_6, (Or.inl ⟨h_11, ⟨z_14, ez_14, (Or.inl ⟨h_15, (Or.inl ⟨h_18, (Or.inr ⟨h_21, (Or.inr ⟨h_22, (Or.inl ⟨h_23, rfl⟩)⟩)⟩)⟩)⟩)⟩⟩)⟩)⟩), rfl⟩
            refine k_lookup 98 X dX9_kindAt_59 (by decide) (off := 39) (by have eh_21 : z_14.toInt ≠ 32 := fun q => h_21 (Int32.toInt_inj.mp (q.trans (by decide))); have eh_22 : z_14.toInt ≠ 44 := fun q => h_22 (Int32.toInt_inj.mp (q.trans (by decide))); have eh_23 : z_14.toInt ≠ 59 := fun q => h_23 (Int32.toInt_inj.mp (q.trans (by decide))); simp [Op.lookupswitch.offset, eh_21.symm, eh_22.symm, eh_23.symm]) (by decide) ?_
            refine k_bipush (v := 6) X dX9_kindAt_k2.2.2.2.1 bi_6 ?_
            exact k_iret X hr dX9_kindAt_k2.2.2.2.2 (Nat.le_of_ble_eq_true rfl) (Nat.le_of_ble_eq_true rfl) [0, 1] (vnd_e rfl) rfl rfl ⟨(iv_w iq_6_6_6 (zle_e rfl) (zle_e rfl)), (by first | exact Or.inl rfl | exact Or.inr (by omega)), (Or.inr ⟨h_1, (Or.inr ⟨h_6, (Or.inl ⟨h_11, ⟨z_14, ez_14, (Or.inl ⟨h_15, (Or.inl ⟨h_18, (Or.inr ⟨h_21, (Or.inr ⟨h_22, (Or.inr ⟨h_23, rfl⟩)⟩)⟩)⟩)⟩)⟩⟩)⟩)⟩), rfl⟩
          · skip
            have j_24 : 48 ≤ z_14.toInt := iv_nlt h_18
            have iv_25 : IV z_14 48 96 := iv_leR (iv_nlt h_18) iq_48_48_48 iv_17 (zle_e rfl)
            refine k_iload_n X dX9_kindAt_k1.2.2.1.2 0 rfl ?_
            refine k_bipush (v := 57) X dX9_kindAt_k1.2.2.2.1 bi_57 ?_
            refine k_ic_gt 58 X dX9_kindAt_k1.2.2.2.2 (jp_e rfl) (fun h_26 => ?_) (fun h_26 => ?_)
            · skip
              have j_27 : 57 < z_14.toInt := iv_lt h_26
              have iv_28 : IV z_14 58 96 := iv_ltR (iv_lt h_26) iq_57_57_57 iv_25 (zle_e rfl)
              refine k_iload_n X dX9_kindAt_k2.1.2.1 0 rfl ?_
              by_cases h_29 : z_14 = 32
              · skip
                refine k_lookup 92 X dX9_kindAt_59 (by decide) (off := 33) (by rw [h_29]; decide) (by decide) ?_
                refine k_iconst (v := 5) X dX9_kindAt_k2.1.2.2.1 ic_5 ?_
                exact k_iret X hr dX9_kindAt_k2.1.2.2.2 (Nat.le_of_ble_eq_true rfl) (Nat.le_of_ble_eq_true rfl) [0, 1] (vnd_e rfl) rfl rfl ⟨(iv_w iq_5_5_5 (zle_e rfl) (zle_e rfl)), (by first | exact Or.inl rfl | exact Or.inr (by omega)), (Or.inr ⟨h_1, (Or.inr ⟨h_6, (Or.inl ⟨h_11, ⟨z_14, ez_14, (Or.inl ⟨h_15, (Or.inr ⟨h_18, (Or.inl ⟨h_26, (Or.inl ⟨h_29, rfl⟩)⟩)⟩)⟩)⟩⟩)⟩)⟩), rfl⟩
              by_cases h_30 : z_14 = 44
              · skip
                refine k_lookup 96 X dX9_kindAt_59 (by decide) (off := 37) (by rw [h_30]; decide) (by decide) ?_
                refine k_iconst (v := 4) X dX9_kindAt_k2.2.1.2.2 ic_4 ?_
                exact k_iret X hr dX9_kindAt_k2.2.2.1 (Nat.le_of_ble_eq_true rfl) (Nat.le_of_ble_eq_true rfl) [0, 1] (vnd_e rfl) rfl rfl ⟨(iv_w iq_4_4_4 (zle_e rfl) (zle_e rfl)), (by first | exact Or.inl rfl | exact Or.inr (by omega)), (Or.inr ⟨h_1, (Or.inr ⟨h_6, (Or.inl ⟨h_11, ⟨z_14, ez_14, (Or.inl ⟨h_15, (Or.inr ⟨h_18, (Or.inl ⟨h_26, (Or.inr ⟨h_29, (Or.inl ⟨h_30, rfl⟩)⟩)⟩)⟩)⟩)⟩⟩)⟩)⟩), rfl⟩
              by_cases h_31 : z_14 = 59
              · skip
                refine k_lookup 94 X dX9_kindAt_59 (by decide) (off := 35) (by rw [h_31]; decide) (by decide) ?_
                refine k_iconst (v := 3) X dX9_kindAt_k2.2.1.1 ic_3 ?_
                exact k_iret X hr dX9_kindAt_k2.2.1.2.1 (Nat.le_of_ble_eq_true rfl) (Nat.le_of_ble_eq_true rfl) [0, 1] (vnd_e rfl) rfl rfl ⟨(iv_w iq_3_3_3 (zle_e rfl) (zle_e rfl)), (by first | exact Or.inl rfl | exact Or.inr (by omega)), (Or.inr ⟨h_1, (Or.inr ⟨h_6, (Or.inl ⟨h_11, ⟨z_14, ez_14, (Or.inl ⟨h_15, (Or.inr ⟨h_18, (Or.inl ⟨h_26, (Or.inr ⟨h_29, (Or.inr ⟨h_30, (Or.inl ⟨h_31, rfl⟩)⟩)⟩)⟩)⟩)⟩)⟩⟩)⟩)⟩), rfl⟩
              refine k_lookup 98 X dX9_kindAt_59 (by decide) (off := 39) (by have eh_29 : z_14.toInt ≠ 32 := fun q => h_29 (Int32.toInt_inj.mp (q.trans (by decide))); have eh_30 : z_14.toInt ≠ 44 := fun q => h_30 (Int32.toInt_inj.mp (q.trans (by decide))); have eh_31 : z_14.toInt ≠ 59 := fun q => h_31 (Int32.toInt_inj.mp (q.trans (by decide))); simp [Op.lookupswitch.offset, eh_29.symm, eh_30.symm, eh_31.symm]) (by decide) ?_
              refine k_bipush (v := 6) X dX9_kindAt_k2.2.2.2.1 bi_6 ?_
              exact k_iret X hr dX9_kindAt_k2.2.2.2.2 (Nat.le_of_ble_eq_true rfl) (Nat.le_of_ble_eq_true rfl) [0, 1] (vnd_e rfl) rfl rfl ⟨(iv_w iq_6_6_6 (zle_e rfl) (zle_e rfl)), (by first | exact Or.inl rfl | exact Or.inr (by omega)), (Or.inr ⟨h_1, (Or.inr ⟨h_6, (Or.inl ⟨h_11, ⟨z_14, ez_14, (Or.inl ⟨h_15, (Or.inr ⟨h_18, (Or.inl ⟨h_26, (Or.inr ⟨h_29, (Or.inr ⟨h_30, (Or.inr ⟨h_31, rfl⟩)⟩)⟩)⟩)⟩)⟩)⟩⟩)⟩)⟩), rfl⟩
            · skip
              have j_32 : z_14.toInt ≤ 57 := iv_nlt h_26
              have iv_33 : IV z_14 48 57 := iv_leL (iv_nlt h_26) iv_25 iq_57_57_57 (zle_e rfl)
              refine k_iconst (v := 2) X dX9_kindAt_k2.1.1.1 ic_2 ?_
              exact k_iret X hr dX9_kindAt_k2.1.1.2 (Nat.le_of_ble_eq_true rfl) (Nat.le_of_ble_eq_true rfl) [0, 1] (vnd_e rfl) rfl rfl ⟨(iv_w iq_2_2_2 (zle_e rfl) (zle_e rfl)), (by first | exact Or.inl rfl | exact Or.inr (by omega)), (Or.inr ⟨h_1, (Or.inr ⟨h_6, (Or.inl ⟨h_11, ⟨z_14, ez_14, (Or.inl ⟨h_15, (Or.inr ⟨h_18, (Or.inr ⟨h_26, rfl⟩)⟩)⟩)⟩⟩)⟩)⟩), rfl⟩
        · skip
          have j_34 : 97 ≤ z_14.toInt := iv_nlt h_15
          have iv_35 : IV z_14 97 2147483647 := iv_leR (iv_nlt h_15) iq_97_97_97 (iv_any z_14) (zle_e rfl)
          refine k_iload_n X dX9_kindAt_k1.1.2.1.2 0 rfl ?_
          refine k_bipush (v := 122) X dX9_kindAt_k1.1.2.2.1 bi_122 ?_
          refine k_ic_gt 44 X dX9_kindAt_k1.1.2.2.2 (jp_e rfl) (fun h_36 => ?_) (fun h_36 => ?_)
          · skip
            have j_37 : 122 < z_14.toInt := iv_lt h_36
            have iv_38 : IV z_14 123 2147483647 := iv_ltR (iv_lt h_36) iq_122_122_122 iv_35 (zle_e rfl)
            refine k_iload_n X dX9_kindAt_k1.2.1.2.1 0 rfl ?_
            refine k_bipush (v := 48) X dX9_kindAt_k1.2.1.2.2 bi_48 ?_
            refine k_ic_lt 58 X dX9_kindAt_k1.2.2.1.1 (jp_e rfl) (fun h_39 => (iv_ltN (iv_lt h_39) iv_38 iq_48_48_48 (zle_e rfl)).elim) (fun h_39 => ?_)
            have j_40 : 48 ≤ z_14.toInt := iv_nlt h_39
            refine k_iload_n X dX9_kindAt_k1.2.2.1.2 0 rfl ?_
            refine k_bipush (v := 57) X dX9_kindAt_k1.2.2.2.1 bi_57 ?_
            refine k_ic_gt 58 X dX9_kindAt_k1.2.2.2.2 (jp_e rfl) (fun h_41 => ?_) (fun h_41 => (iv_leN (iv_nlt h_41) iv_38 iq_57_57_57 (by decide)).elim)
            have j_42 : 57 < z_14.toInt := iv_lt h_41
            refine k_iload_n X dX9_kindAt_k2.1.2.1 0 rfl ?_
            by_cases h_43 : z_14 = 32
            · skip
              refine k_lookup 92 X dX9_kindAt_59 (by decide) (off := 33) (by rw [h_43]; decide) (by decide) ?_
              refine k_iconst (v := 5) X dX9_kindAt_k2.1.2.2.1 ic_5 ?_
              exact k_iret X hr dX9_kindAt_k2.1.2.2.2 (Nat.le_of_ble_eq_true rfl) (Nat.le_of_ble_eq_true rfl) [0, 1] (vnd_e rfl) rfl rfl ⟨(iv_w iq_5_5_5 (zle_e rfl) (zle_e rfl)), (by first | exact Or.inl rfl | exact Or.inr (by omega)), (Or.inr ⟨h_1, (Or.inr ⟨h_6, (Or.inl ⟨h_11, ⟨z_14, ez_14, (Or.inr ⟨h_15, (Or.inl ⟨h_36, (Or.inl ⟨h_43, rfl⟩)⟩)⟩)⟩⟩)⟩)⟩), rfl⟩
            by_cases h_44 : z_14 = 44
            · skip
              refine k_lookup 96 X dX9_kindAt_59 (by decide) (off := 37) (by rw [h_44]; decide) (by decide) ?_
              refine k_iconst (v := 4) X dX9_kindAt_k2.2.1.2.2 ic_4 ?_
              exact k_iret X hr dX9_kindAt_k2.2.2.1 (Nat.le_of_ble_eq_true rfl) (Nat.le_of_ble_eq_true rfl) [0, 1] (vnd_e rfl) rfl rfl ⟨(iv_w iq_4_4_4 (zle_e rfl) (zle_e rfl)), (by first | exact Or.inl rfl | exact Or.inr (by omega)), (Or.inr ⟨h_1, (Or.inr ⟨h_6, (Or.inl ⟨h_11, ⟨z_14, ez_14, (Or.inr ⟨h_15, (Or.inl ⟨h_36, (Or.inr ⟨h_43, (Or.inl ⟨h_44, rfl⟩)⟩)⟩)⟩)⟩⟩)⟩)⟩), rfl⟩
            by_cases h_45 : z_14 = 59
            · skip
              refine k_lookup 94 X dX9_kindAt_59 (by decide) (off := 35) (by rw [h_45]; decide) (by decide) ?_
              refine k_iconst (v := 3) X dX9_kindAt_k2.2.1.1 ic_3 ?_
              exact k_iret X hr dX9_kindAt_k2.2.1.2.1 (Nat.le_of_ble_eq_true rfl) (Nat.le_of_ble_eq_true rfl) [0, 1] (vnd_e rfl) rfl rfl ⟨(iv_w iq_3_3_3 (zle_e rfl) (zle_e rfl)), (by first | exact Or.inl rfl | exact Or.inr (by omega)), (Or.inr ⟨h_1, (Or.inr ⟨h_6, (Or.inl ⟨h_11, ⟨z_14, ez_14, (Or.inr ⟨h_15, (Or.inl ⟨h_36, (Or.inr ⟨h_43, (Or.inr ⟨h_44, (Or.inl ⟨h_45, rfl⟩)⟩)⟩)⟩)⟩)⟩⟩)⟩)⟩), rfl⟩
            refine k_lookup 98 X dX9_kindAt_59 (by decide) (off := 39) (by have eh_43 : z_14.toInt ≠ 32 := fun q => h_43 (Int32.toInt_inj.mp (q.trans (by decide))); have eh_44 : z_14.toInt ≠ 44 := fun q => h_44 (Int32.toInt_inj.mp (q.trans (by decide))); have eh_45 : z_14.toInt ≠ 59 := fun q => h_45 (Int32.toInt_inj.mp (q.trans (by decide))); simp [Op.lookupswitch.offset, eh_43.symm, eh_44.symm, eh_45.symm]) (by decide) ?_
            refine k_bipush (v := 6) X dX9_kindAt_k2.2.2.2.1 bi_6 ?_
            exact k_iret X hr dX9_kindAt_k2.2.2.2.2 (Nat.le_of_ble_eq_true rfl) (Nat.le_of_ble_eq_true rfl) [0, 1] (vnd_e rfl) rfl rfl ⟨(iv_w iq_6_6_6 (zle_e rfl) (zle_e rfl)), (by first | exact Or.inl rfl | exact Or.inr (by omega)), (Or.inr ⟨h_1, (Or.inr ⟨h_6, (Or.inl ⟨h_11, ⟨z_14, ez_14, (Or.inr ⟨h_15, (Or.inl ⟨h_36, (Or.inr ⟨h_43, (Or.inr ⟨h_44, (Or.inr ⟨h_45, rfl⟩)⟩)⟩)⟩)⟩)⟩⟩)⟩)⟩), rfl⟩
          · skip
            have j_46 : z_14.toInt ≤ 122 := iv_nlt h_36
            have iv_47 : IV z_14 97 122 := iv_leL (iv_nlt h_36) iv_35 iq_122_122_122 (zle_e rfl)
            refine k_iconst (v := 1) X dX9_kindAt_k1.2.1.1.1 ic_1 ?_
            exact k_iret X hr dX9_kindAt_k1.2.1.1.2 (Nat.le_of_ble_eq_true rfl) (Nat.le_of_ble_eq_true rfl) [0, 1] (vnd_e rfl) rfl rfl ⟨(iv_w iq_1_1_1 (zle_e rfl) (zle_e rfl)), (by first | exact Or.inl rfl | exact Or.inr (by omega)), (Or.inr ⟨h_1, (Or.inr ⟨h_6, (Or.inl ⟨h_11, ⟨z_14, ez_14, (Or.inr ⟨h_15, (Or.inr ⟨h_36, rfl⟩)⟩)⟩⟩)⟩)⟩), rfl⟩
      · skip
        have j_48 : 900 ≤ p0.toInt := iv_nlt h_11
        have iv_49 : IV p0 900 2147483646 := iv_leR (iv_nlt h_11) iq_900_900_900 iv_9 (zle_e rfl)
        refine k_iconst (v := 0) X dX9_kindAt_k0.2.1.2.2 ic_0 ?_
        exact k_iret X hr dX9_kindAt_k0.2.2.1.1 (Nat.le_of_ble_eq_true rfl) (Nat.le_of_ble_eq_true rfl) [0, 1] (vnd_e rfl) rfl rfl ⟨(iv_w iq_0_0_0 (zle_e rfl) (zle_e rfl)), (by first | exact Or.inl rfl | exact Or.inr (by omega)), (Or.inr ⟨h_1, (Or.inr ⟨h_6, (Or.inr ⟨h_11, rfl⟩)⟩)⟩), rfl⟩


set_option maxHeartbeats 4000000 in
set_option maxRecDepth 100000 in
theorem x_nextX (l : Launch) (g : Gx) (h0 : Nat) (xtpd : Int32) (th : Nat) (xfn : Int32) (xfp : Int32) (tp : Nat) (xen : Int32) (nm : Nat) (nd : Nat) (xkd : Int32) (xsta : Int32) (xpo : Int32) (xva : Int32) (xle : Int64) (xtk : Int32) (xta : Int32) (tpf : Nat → Int32) (hv_xen : IV xen 0 900) (hv_xpo : IV xpo 0 900) : cV l g yX9_next cX9_next 1 1 22 0 0 [.ref h0] [(cO9_i1r1i2r1i1r2i4l1i2 h0 xtpd th xfn xfp tp xen nm nd xkd xsta xpo xva xle xtk xta), (cAB g tp 900 tpf)] (fun w => ∃ (xkd2 : Int32) (xsta2 : Int32) (xpo2 : Int32) (xva2 : Int32) (xle2 : Int64), IV xsta2 0 900 ∧ IV xpo2 0 900 ∧ IV xkd2 0 6 ∧ (R_x_nextX xen xpo tpf xkd2 xsta2 xpo2 xva2 xle2) ∧ w = [(cO9_i1r1i2r1i1r2i4l1i2 h0 xtpd th xfn xfp tp xen nm nd xkd2 xsta2 xpo2 xva2 xle2 xtk xta), (cAB g tp 900 tpf)]) := by
  refine cV.of (by decide) (Nat.le_of_ble_eq_true rfl) ?_
  intro p e s m args below meth c A X hr hi
  refine k_lveq [(0, .ref h0)] rfl ?_
  refine (fun hL : ∀ (nn_3 : Nat) (u_1 : Int32), (xen.toInt - u_1.toInt).toNat = nn_3 → (IV u_1 0 900) → (∀ (xkd2 : Int32) (xsta2 : Int32) (xpo2 : Int32) (xva2 : Int32) (xle2 : Int64), (∃ n_0 : Nat, R_x_nextX_L0 xen tpf (fun (u_1 : Int32) => ∃ r_8 : Int32, (R_x_kindAtX u_1 xen tpf r_8) ∧ (((r_8 = (1 : Int32)) ∧ (∃ n_1 : Nat, R_x_nextX_L1 xen tpf r_8 (fun (u_14 : Int32) (u_16 : Int32) (u_17 : Int64) => ∃ z_25 : Int32, z_25 = u_14 - u_1 ∧ (((z_25 ≤ (8 : Int32)) ∧ (xkd2 = r_8 ∧ xsta2 = u_1 ∧ xpo2 = u_14 ∧ xva2 = u_16 ∧ xle2 = u_17)) ∨ ((¬ (z_25 ≤ (8 : Int32))) ∧ (xkd2 = 6 ∧ xsta2 = u_1 ∧ xpo2 = u_14 ∧ xva2 = u_16 ∧ xle2 = u_17)))) (fun (u_14 : Int32) (u_16 : Int32) (u_17 : Int64) => ∃ z_44 : Int32, z_44 = u_14 - u_1 ∧ (((z_44 ≤ (8 : Int32)) ∧ (xkd2 = r_8 ∧ xsta2 = u_1 ∧ xpo2 = u_14 ∧ xva2 = u_16 ∧ xle2 = u_17)) ∨ ((¬ (z_44 ≤ (8 : Int32))) ∧ (xkd2 = 6 ∧ xsta2 = u_1 ∧ xpo2 = u_14 ∧ xva2 = u_16 ∧ xle2 = u_17)))) n_1 u_1 0 0)) ∨ ((¬ (r_8 = (1 : Int32))) ∧ ((((r_8 ≠ (2 : Int32)) ∧ ((((r_8 = (0 : Int32)) ∧ (∃ z_75 : Int32, z_75 = u_1 - u_1 ∧ (((z_75 ≤ (4 : Int32)) ∧ (xkd2 = r_8 ∧ xsta2 = u_1 ∧ xpo2 = u_1 ∧ xva2 = 0 ∧ xle2 = 0)) ∨ ((¬ (z_75 ≤ (4 : Int32))) ∧ (xkd2 = 6 ∧ xsta2 = u_1 ∧ xpo2 = u_1 ∧ xva2 = 0 ∧ xle2 = 0))))) ∨ ((¬ (r_8 = (0 : Int32))) ∧ (∃ z_86 : Int32, z_86 = u_1 + (1 : Int32) ∧ ∃ z_89 : Int32, z_89 = z_86 - u_1 ∧ (((r_8 ≠ (1 : Int32)) ∧ ((((z_89 ≤ (4 : Int32)) ∧ (xkd2 = r_8 ∧ xsta2 = u_1 ∧ xpo2 = z_86 ∧ xva2 = 0 ∧ xle2 = 0)) ∨ ((¬ (z_89 ≤ (4 : Int32))) ∧ (xkd2 = 6 ∧ xsta2 = u_1 ∧ xpo2 = z_86 ∧ xva2 = 0 ∧ xle2 = 0))))) ∨ ((r_8 = (1 : Int32)) ∧ ((((z_89 ≤ (8 : Int32)) ∧ (xkd2 = r_8 ∧ xsta2 = u_1 ∧ xpo2 = z_86 ∧ xva2 = 0 ∧ xle2 = 0)) ∨ ((¬ (z_89 ≤ (8 : Int32))) ∧ (xkd2 = 6 ∧ xsta2 = u_1 ∧ xpo2 = z_86 ∧ xva2 = 0 ∧ xle2 = 0))))))))))) ∨ ((r_8 = (2 : Int32)) ∧ (∃ n_2 : Nat, R_x_nextX_L2 xen tpf r_8 (fun (u_106 : Int32) (u_108 : Int32) (u_109 : Int64) => ∃ z_117 : Int32, z_117 = u_106 - u_1 ∧ (((z_117 ≤ (4 : Int32)) ∧ (xkd2 = r_8 ∧ xsta2 = u_1 ∧ xpo2 = u_106 ∧ xva2 = u_108 ∧ xle2 = u_109)) ∨ ((¬ (z_117 ≤ (4 : Int32))) ∧ (xkd2 = 6 ∧ xsta2 = u_1 ∧ xpo2 = u_106 ∧ xva2 = u_108 ∧ xle2 = u_109)))) (fun (u_106 : Int32) (u_108 : Int32) (u_109 : Int64) => ∃ z_136 : Int32, z_136 = u_106 - u_1 ∧ (((z_136 ≤ (4 : Int32)) ∧ (xkd2 = r_8 ∧ xsta2 = u_1 ∧ xpo2 = u_106 ∧ xva2 = u_108 ∧ xle2 = u_109)) ∨ ((¬ (z_136 ≤ (4 : Int32))) ∧ (xkd2 = 6 ∧ xsta2 = u_1 ∧ xpo2 = u_106 ∧ xva2 = u_108 ∧ xle2 = u_109)))) n_2 u_1 0 0))))))) (fun (u_1 : Int32) => ∃ r_172 : Int32, (R_x_kindAtX u_1 xen tpf r_172) ∧ (((r_172 = (1 : Int32)) ∧ (∃ n_3 : Nat, R_x_nextX_L3 xen tpf r_172 (fun (u_178 : Int32) (u_180 : Int32) (u_181 : Int64) => ∃ z_190 : Int32, z_190 = u_178 - u_1 ∧ (((z_190 ≤ (8 : Int32)) ∧ (xkd2 = r_172 ∧ xsta2 = u_1 ∧ xpo2 = u_178 ∧ xva2 = u_180 ∧ xle2 = u_181)) ∨ ((¬ (z_190 ≤ (8 : Int32))) ∧ (xkd2 = 6 ∧ xsta2 = u_1 ∧ xpo2 = u_178 ∧ xva2 = u_180 ∧ xle2 = u_181)))) (fun (u_178 : Int32) (u_180 : Int32) (u_181 : Int64) => ∃ z_208 : Int32, z_208 = u_178 - u_1 ∧ (((z_208 ≤ (8 : Int32)) ∧ (xkd2 = r_172 ∧ xsta2 = u_1 ∧ xpo2 = u_178 ∧ xva2 = u_180 ∧ xle2 = u_181)) ∨ ((¬ (z_208 ≤ (8 : Int32))) ∧ (xkd2 = 6 ∧ xsta2 = u_1 ∧ xpo2 = u_178 ∧ xva2 = u_180 ∧ xle2 = u_181)))) n_3 u_1 0 0)) ∨ ((¬ (r_172 = (1 : Int32))) ∧ ((((r_172 ≠ (2 : Int32)) ∧ ((((r_172 = (0 : Int32)) ∧ (∃ z_239 : Int32, z_239 = u_1 - u_1 ∧ (((z_239 ≤ (4 : Int32)) ∧ (xkd2 = r_172 ∧ xsta2 = u_1 ∧ xpo2 = u_1 ∧ xva2 = 0 ∧ xle2 = 0)) ∨ ((¬ (z_239 ≤ (4 : Int32))) ∧ (xkd2 = 6 ∧ xsta2 = u_1 ∧ xpo2 = u_1 ∧ xva2 = 0 ∧ xle2 = 0))))) ∨ ((¬ (r_172 = (0 : Int32))) ∧ (∃ z_250 : Int32, z_250 = u_1 + (1 : Int32) ∧ ∃ z_253 : Int32, z_253 = z_250 - u_1 ∧ (((r_172 ≠ (1 : Int32)) ∧ ((((z_253 ≤ (4 : Int32)) ∧ (xkd2 = r_172 ∧ xsta2 = u_1 ∧ xpo2 = z_250 ∧ xva2 = 0 ∧ xle2 = 0)) ∨ ((¬ (z_253 ≤ (4 : Int32))) ∧ (xkd2 = 6 ∧ xsta2 = u_1 ∧ xpo2 = z_250 ∧ xva2 = 0 ∧ xle2 = 0))))) ∨ ((r_172 = (1 : Int32)) ∧ ((((z_253 ≤ (8 : Int32)) ∧ (xkd2 = r_172 ∧ xsta2 = u_1 ∧ xpo2 = z_250 ∧ xva2 = 0 ∧ xle2 = 0)) ∨ ((¬ (z_253 ≤ (8 : Int32))) ∧ (xkd2 = 6 ∧ xsta2 = u_1 ∧ xpo2 = z_250 ∧ xva2 = 0 ∧ xle2 = 0))))))))))) ∨ ((r_172 = (2 : Int32)) ∧ (∃ n_4 : Nat, R_x_nextX_L4 xen tpf r_172 (fun (u_270 : Int32) (u_272 : Int32) (u_273 : Int64) => ∃ z_282 : Int32, z_282 = u_270 - u_1 ∧ (((z_282 ≤ (4 : Int32)) ∧ (xkd2 = r_172 ∧ xsta2 = u_1 ∧ xpo2 = u_270 ∧ xva2 = u_272 ∧ xle2 = u_273)) ∨ ((¬ (z_282 ≤ (4 : Int32))) ∧ (xkd2 = 6 ∧ xsta2 = u_1 ∧ xpo2 = u_270 ∧ xva2 = u_272 ∧ xle2 = u_273)))) (fun (u_270 : Int32) (u_272 : Int32) (u_273 : Int64) => ∃ z_300 : Int32, z_300 = u_270 - u_1 ∧ (((z_300 ≤ (4 : Int32)) ∧ (xkd2 = r_172 ∧ xsta2 = u_1 ∧ xpo2 = u_270 ∧ xva2 = u_272 ∧ xle2 = u_273)) ∨ ((¬ (z_300 ≤ (4 : Int32))) ∧ (xkd2 = 6 ∧ xsta2 = u_1 ∧ xpo2 = u_270 ∧ xva2 = u_272 ∧ xle2 = u_273)))) n_4 u_1 0 0))))))) n_0 u_1) → R_x_nextX xen xpo tpf xkd2 xsta2 xpo2 xva2 xle2) → Wk p l e _ s m args below meth c _ A g _ _ _ [(cO9_i1r1i2r1i1r2i4l1i2 h0 xtpd th xfn xfp tp xen nm nd xkd xsta u_1 xva xle xtk xta), (cAB g tp 900 tpf)] [(0, .ref h0)] 0 [] => hL _ xpo rfl (iv_w hv_xpo (zle_e rfl) (zle_e rfl)) (fun xkd2 xsta2 xpo2 xva2 xle2 h => h)) ?_
  refine fun nn_3 => Nat.strongRecOn nn_3 (fun nn_3 ih_5 => ?_)
  intro u_1 hm_4 hv_2 KH_0
  refine k_aload_n X dX9_next_k0.1.1.1.1 0 rfl ?_
  refine k_get (ci := 9) X inlX9 rfl 10 (nlt_e rfl) dX9_next_k0.1.1.1.2 mw68 0 rfl rfl ?_
  refine k_aload_n X dX9_next_k0.1.1.2.1 0 rfl ?_
  refine k_get (ci := 9) X inlX9 rfl 5 (nlt_e rfl) dX9_next_k0.1.1.2.2 mw60 0 rfl rfl ?_
  refine k_ic_ge 36 X dX9_next_k0.1.2.1.1 (jp_e rfl) (fun h_6 => ?_) (fun h_6 => ?_)
  · skip
    have j_7 : xen.toInt ≤ u_1.toInt := iv_le h_6
    refine k_aload_n X dX9_next_k1.1.1.2.1 0 rfl ?_
    refine k_aload_n X dX9_next_k1.1.1.2.2 0 rfl ?_
    refine k_get (ci := 9) X inlX9 rfl 10 (nlt_e rfl) dX9_next_k1.1.2.1.1 mw68 0 rfl rfl ?_
    refine k_put (ci := 9) [(cO9_i1r1i2r1i1r2i4l1i2 h0 xtpd th xfn xfp tp xen nm nd xkd u_1 u_1 xva xle xtk xta), (cAB g tp 900 tpf)] X inlX9 rfl tyX9_ok nmX9 9 (nlt_e rfl) rfl dX9_next_k1.1.2.1.2 mw67 0 rfl rfl rfl (Nat.le_of_ble_eq_true rfl) rfl ?_
    refine k_aload_n X dX9_next_k1.1.2.2.1 0 rfl ?_
    refine k_aload_n X dX9_next_k1.1.2.2.2 0 rfl ?_
    refine k_aload_n X dX9_next_k1.2.1.1.1 0 rfl ?_
    refine k_get (ci := 9) X inlX9 rfl 9 (nlt_e rfl) dX9_next_k1.2.1.1.2 mw67 0 rfl rfl ?_
    refine k_callVI (n := 1) (As := [.int u_1]) (st := [.ref h0]) X [(cO9_i1r1i2r1i1r2i4l1i2 h0 xtpd th xfn xfp tp xen nm nd xkd u_1 u_1 xva xle xtk xta), (cAB g tp 900 tpf)] [] [0, 1] [] (x_kindAtX l g h0 u_1 xtpd th xfn xfp tp xen nm nd xkd u_1 u_1 xva xle xtk xta tpf) dX9_next_k1.2.1.2.1 mw242 mw243 mw244 mw15 mw245 rfl 9 rfl rfl 0 _ rfl yk_yX9_kindAt_1 rfl (Nat.le_of_ble_eq_true rfl) (Nat.le_of_ble_eq_true rfl) (Nat.le_of_ble_eq_true rfl) (Nat.le_of_ble_eq_true rfl) (Nat.le_of_ble_eq_true rfl) rfl rfl (vnd_e rfl) rfl (vnd_e rfl) (dsj_e rfl) ?_
    rintro r_8 w ⟨iv_9, hq_10, hq_11, rfl⟩
    refine k_ws [(cO9_i1r1i2r1i1r2i4l1i2 h0 xtpd th xfn xfp tp xen nm nd xkd u_1 u_1 xva xle xtk xta), (cAB g tp 900 tpf)] rfl ?_
    refine k_put (ci := 9) [(cO9_i1r1i2r1i1r2i4l1i2 h0 xtpd th xfn xfp tp xen nm nd r_8 u_1 u_1 xva xle xtk xta), (cAB g tp 900 tpf)] X inlX9 rfl tyX9_ok nmX9 8 (nlt_e rfl) rfl dX9_next_k1.2.1.2.2 mw66 0 rfl rfl rfl (Nat.le_of_ble_eq_true rfl) rfl ?_
    refine k_aload_n X dX9_next_k1.2.2.1.1 0 rfl ?_
    refine k_lconst (v := 0) X dX9_next_k1.2.2.1.2 (by decide) ?_
    refine k_put (ci := 9) [(cO9_i1r1i2r1i1r2i4l1i2 h0 xtpd th xfn xfp tp xen nm nd r_8 u_1 u_1 xva 0 xtk xta), (cAB g tp 900 tpf)] X inlX9 rfl tyX9_ok nmX9 12 (nlt_e rfl) rfl dX9_next_k1.2.2.2.1 mw70 0 rfl rfl rfl (Nat.le_of_ble_eq_true rfl) rfl ?_
    refine k_aload_n X dX9_next_k1.2.2.2.2 0 rfl ?_
    refine k_iconst (v := 0) X dX9_next_k2.1.1.1.1 ic_0 ?_
    refine k_put (ci := 9) [(cO9_i1r1i2r1i1r2i4l1i2 h0 xtpd th xfn xfp tp xen nm nd r_8 u_1 u_1 0 0 xtk xta), (cAB g tp 900 tpf)] X inlX9 rfl tyX9_ok nmX9 11 (nlt_e rfl) rfl dX9_next_k2.1.1.1.2 mw69 0 rfl rfl rfl (Nat.le_of_ble_eq_true rfl) rfl ?_
    refine k_aload_n X dX9_next_k2.1.1.2.1 0 rfl ?_
    refine k_get (ci := 9) X inlX9 rfl 8 (nlt_e rfl) dX9_next_k2.1.1.2.2 mw66 0 rfl rfl ?_
    refine k_iconst (v := 1) X dX9_next_k2.1.2.1.1 ic_1 ?_
    refine k_ic_eq 82 X dX9_next_k2.1.2.1.2 (jp_e rfl) (fun h_12 => ?_) (fun h_12 => ?_)
    · skip
      have iv_13 : IV r_8 1 1 := iv_meet iv_9 (iv_e h_12 iq_1_1_1) (zle_o rfl) (zle_o rfl)
      refine (fun hL : ∀ (nn_18 : Nat) (u_14 : Int32) (u_16 : Int32) (u_17 : Int64), (xen.toInt - u_14.toInt).toNat = nn_18 → (IV u_14 0 900) → (∀ (xkd2 : Int32) (xsta2 : Int32) (xpo2 : Int32) (xva2 : Int32) (xle2 : Int64), (∃ n_1 : Nat, R_x_nextX_L1 xen tpf r_8 (fun (u_14 : Int32) (u_16 : Int32) (u_17 : Int64) => ∃ z_25 : Int32, z_25 = u_14 - u_1 ∧ (((z_25 ≤ (8 : Int32)) ∧ (xkd2 = r_8 ∧ xsta2 = u_1 ∧ xpo2 = u_14 ∧ xva2 = u_16 ∧ xle2 = u_17)) ∨ ((¬ (z_25 ≤ (8 : Int32))) ∧ (xkd2 = 6 ∧ xsta2 = u_1 ∧ xpo2 = u_14 ∧ xva2 = u_16 ∧ xle2 = u_17)))) (fun (u_14 : Int32) (u_16 : Int32) (u_17 : Int64) => ∃ z_44 : Int32, z_44 = u_14 - u_1 ∧ (((z_44 ≤ (8 : Int32)) ∧ (xkd2 = r_8 ∧ xsta2 = u_1 ∧ xpo2 = u_14 ∧ xva2 = u_16 ∧ xle2 = u_17)) ∨ ((¬ (z_44 ≤ (8 : Int32))) ∧ (xkd2 = 6 ∧ xsta2 = u_1 ∧ xpo2 = u_14 ∧ xva2 = u_16 ∧ xle2 = u_17)))) n_1 u_14 u_16 u_17) → R_x_nextX xen xpo tpf xkd2 xsta2 xpo2 xva2 xle2) → Wk p l e _ s m args below meth c _ A g _ _ _ [(cO9_i1r1i2r1i1r2i4l1i2 h0 xtpd th xfn xfp tp xen nm nd r_8 u_1 u_14 u_16 u_17 xtk xta), (cAB g tp 900 tpf)] [(0, .ref h0)] 82 [] => hL _ u_1 0 0 rfl (iv_w hv_2 (zle_e rfl) (zle_e rfl)) (fun xkd2 xsta2 xpo2 xva2 xle2 h => (KH_0 _ _ _ _ _ ⟨0 + 1, (Or.inl ⟨h_6, ⟨r_8, hq_11, (Or.inl ⟨h_12, h⟩)⟩⟩)⟩))) ?_
      refine fun nn_18 => Nat.strongRecOn nn_18 (fun nn_18 ih_20 => ?_)
      intro u_14 u_16 u_17 hm_19 hv_15 KH_1
      refine k_aload_n X dX9_next_k2.2.1.2.1 0 rfl ?_
      refine k_get (ci := 9) X inlX9 rfl 10 (nlt_e rfl) dX9_next_k2.2.1.2.2 mw68 0 rfl rfl ?_
      refine k_if_lt 209 X dX9_next_k2.2.2.1.1 (jp_e rfl) (fun h_21 => (iv_ltN (iv_lt h_21) hv_15 iq_0_0_0 (zle_e rfl)).elim) (fun h_21 => ?_)
      have j_22 : 0 ≤ u_14.toInt := iv_nlt h_21
      refine k_aload_n X dX9_next_k2.2.2.1.2 0 rfl ?_
      refine k_get (ci := 9) X inlX9 rfl 10 (nlt_e rfl) dX9_next_k2.2.2.2.1 mw68 0 rfl rfl ?_
      refine k_aload_n X dX9_next_k2.2.2.2.2 0 rfl ?_
      refine k_get (ci := 9) X inlX9 rfl 5 (nlt_e rfl) dX9_next_k3.1.1.1.1 mw60 0 rfl rfl ?_
      refine k_ic_ge 209 X dX9_next_k3.1.1.1.2 (jp_e rfl) (fun h_23 => ?_) (fun h_23 => ?_)
      · skip
        have j_24 : xen.toInt ≤ u_14.toInt := iv_le h_23
        refine k_aload_n X dX9_next_k6.2.2.2.1 0 rfl ?_
        refine k_get (ci := 9) X inlX9 rfl 10 (nlt_e rfl) dX9_next_k6.2.2.2.2 mw68 0 rfl rfl ?_
        refine k_aload_n X dX9_next_k7.1.1.1 0 rfl ?_
        refine k_get (ci := 9) X inlX9 rfl 9 (nlt_e rfl) dX9_next_k7.1.1.2.1 mw67 0 rfl rfl ?_
        refine k_isub X dX9_next_k7.1.1.2.2 ?_
        refine k_nm (fun z_25 ez_25 => ?_)
        have i_26 : z_25.toInt = u_14.toInt - u_1.toInt := in_sub ez_25 hv_15 hv_2 (zle_e rfl) (zle_e rfl)
        have iv_27 : IV z_25 (-900) 900 := by have := hv_15; have := hv_2; rw [IV, i_26]; omega
        refine k_aload_n X dX9_next_k7.1.2.1.1 0 rfl ?_
        refine k_get (ci := 9) X inlX9 rfl 8 (nlt_e rfl) dX9_next_k7.1.2.1.2 mw66 0 rfl rfl ?_
        refine k_iconst (v := 1) X dX9_next_k7.1.2.2.1 ic_1 ?_
        refine k_ic_ne 231 X dX9_next_k7.1.2.2.2 (jp_e rfl) (fun h_28 => absurd (iv_eq iv_13 iq_1_1_1) h_28) (fun h_28 => ?_)
        refine k_bipush (v := 8) X dX9_next_k7.2.1.1.1 bi_8 ?_
        refine k_goto 232 X dX9_next_k7.2.1.1.2 (jp_e rfl) ?_
        refine k_ic_le 241 X dX9_next_k7.2.1.2.2 (jp_e rfl) (fun h_29 => ?_) (fun h_29 => ?_)
        · skip
          have j_30 : z_25.toInt ≤ 8 := iv_le h_29
          have iv_31 : IV z_25 (-900) 8 := iv_leL (iv_le h_29) iv_27 iq_8_8_8 (zle_e rfl)
          exact k_vret X hr dX9_next_k7.2.2.2.2 (Nat.le_of_ble_eq_true rfl) (Nat.le_of_ble_eq_true rfl) [0, 1] (vnd_e rfl) rfl rfl (exI5 r_8 u_1 u_14 u_16 u_17 ⟨(iv_w hv_2 (zle_e rfl) (zle_e rfl)), (iv_w hv_15 (zle_e rfl) (zle_e rfl)), (iv_w iv_13 (zle_e rfl) (zle_e rfl)), (KH_1 _ _ _ _ _ ⟨0 + 1, (Or.inl ⟨h_23, ⟨z_25, ez_25, (Or.inl ⟨h_29, ⟨rfl, rfl, rfl, rfl, rfl⟩⟩)⟩⟩)⟩), rfl⟩)
        · skip
          have j_32 : 8 < z_25.toInt := iv_nle h_29
          have iv_33 : IV z_25 9 900 := iv_ltR (iv_nle h_29) iq_8_8_8 iv_27 (zle_e rfl)
          refine k_aload_n X dX9_next_k7.2.2.1.1 0 rfl ?_
          refine k_bipush (v := 6) X dX9_next_k7.2.2.1.2 bi_6 ?_
          refine k_put (ci := 9) [(cO9_i1r1i2r1i1r2i4l1i2 h0 xtpd th xfn xfp tp xen nm nd 6 u_1 u_14 u_16 u_17 xtk xta), (cAB g tp 900 tpf)] X inlX9 rfl tyX9_ok nmX9 8 (nlt_e rfl) rfl dX9_next_k7.2.2.2.1 mw66 0 rfl rfl rfl (Nat.le_of_ble_eq_true rfl) rfl ?_
          exact k_vret X hr dX9_next_k7.2.2.2.2 (Nat.le_of_ble_eq_true rfl) (Nat.le_of_ble_eq_true rfl) [0, 1] (vnd_e rfl) rfl rfl (exI5 6 u_1 u_14 u_16 u_17 ⟨(iv_w hv_2 (zle_e rfl) (zle_e rfl)), (iv_w hv_15 (zle_e rfl) (zle_e rfl)), (iv_w iq_6_6_6 (zle_e rfl) (zle_e rfl)), (KH_1 _ _ _ _ _ ⟨0 + 1, (Or.inl ⟨h_23, ⟨z_25, ez_25, (Or.inr ⟨h_29, ⟨rfl, rfl, rfl, rfl, rfl⟩⟩)⟩⟩)⟩), rfl⟩)
      · skip
        have j_34 : u_14.toInt < xen.toInt := iv_nle h_23
        have iv_35 : IV u_14 0 899 := iv_ltL (iv_nle h_23) hv_15 hv_xen (zle_e rfl)
        have iv_36 : IV xen 1 900 := iv_ltR (iv_nle h_23) hv_15 hv_xen (zle_e rfl)
        refine k_aload_n X dX9_next_k3.1.1.2.1 0 rfl ?_
        refine k_get (ci := 9) X inlX9 rfl 10 (nlt_e rfl) dX9_next_k3.1.1.2.2 mw68 0 rfl rfl ?_
        refine k_aload_n X dX9_next_k3.1.2.1.1 0 rfl ?_
        refine k_get (ci := 9) X inlX9 rfl 4 (nlt_e rfl) dX9_next_k3.1.2.1.2 mw59 0 rfl rfl ?_
        refine k_alen 900 0 X dX9_next_k3.1.2.2.1 1 rfl rfl (by show Int32.ofNat 900 = 900; decide) ?_
        refine k_ic_ge 209 X dX9_next_k3.1.2.2.2 (jp_e rfl) (fun h_37 => (iv_leN (iv_le h_37) iq_900_900_900 iv_35 (by decide)).elim) (fun h_37 => ?_)
        have j_38 : u_14.toInt < 900 := iv_nle h_37
        refine k_aload_n X dX9_next_k3.2.1.1.1 0 rfl ?_
        refine k_aload_n X dX9_next_k3.2.1.1.2 0 rfl ?_
        refine k_get (ci := 9) X inlX9 rfl 10 (nlt_e rfl) dX9_next_k3.2.1.2.1 mw68 0 rfl rfl ?_
        refine k_callVI (n := 1) (As := [.int u_14]) (st := []) X [(cO9_i1r1i2r1i1r2i4l1i2 h0 xtpd th xfn xfp tp xen nm nd r_8 u_1 u_14 u_16 u_17 xtk xta), (cAB g tp 900 tpf)] [] [0, 1] [] (x_kindAtX l g h0 u_14 xtpd th xfn xfp tp xen nm nd r_8 u_1 u_14 u_16 u_17 xtk xta tpf) dX9_next_k3.2.1.2.2 mw242 mw243 mw244 mw15 mw245 rfl 9 rfl rfl 0 _ rfl yk_yX9_kindAt_1 rfl (Nat.le_of_ble_eq_true rfl) (Nat.le_of_ble_eq_true rfl) (Nat.le_of_ble_eq_true rfl) (Nat.le_of_ble_eq_true rfl) (Nat.le_of_ble_eq_true rfl) rfl rfl (vnd_e rfl) rfl (vnd_e rfl) (dsj_e rfl) ?_
        rintro r_39 w ⟨iv_40, hq_41, hq_42, rfl⟩
        refine k_ws [(cO9_i1r1i2r1i1r2i4l1i2 h0 xtpd th xfn xfp tp xen nm nd r_8 u_1 u_14 u_16 u_17 xtk xta), (cAB g tp 900 tpf)] rfl ?_
        refine k_aload_n X dX9_next_k3.2.2.1.1 0 rfl ?_
        refine k_get (ci := 9) X inlX9 rfl 8 (nlt_e rfl) dX9_next_k3.2.2.1.2 mw66 0 rfl rfl ?_
        refine k_ic_ne 209 X dX9_next_k3.2.2.2.1 (jp_e rfl) (fun h_43 => ?_) (fun h_43 => ?_)
        · skip
          refine k_aload_n X dX9_next_k6.2.2.2.1 0 rfl ?_
          refine k_get (ci := 9) X inlX9 rfl 10 (nlt_e rfl) dX9_next_k6.2.2.2.2 mw68 0 rfl rfl ?_
          refine k_aload_n X dX9_next_k7.1.1.1 0 rfl ?_
          refine k_get (ci := 9) X inlX9 rfl 9 (nlt_e rfl) dX9_next_k7.1.1.2.1 mw67 0 rfl rfl ?_
          refine k_isub X dX9_next_k7.1.1.2.2 ?_
          refine k_nm (fun z_44 ez_44 => ?_)
          have i_45 : z_44.toInt = u_14.toInt - u_1.toInt := in_sub ez_44 iv_35 hv_2 (zle_e rfl) (zle_e rfl)
          have iv_46 : IV z_44 (-900) 899 := by have := iv_35; have := hv_2; rw [IV, i_45]; omega
          refine k_aload_n X dX9_next_k7.1.2.1.1 0 rfl ?_
          refine k_get (ci := 9) X inlX9 rfl 8 (nlt_e rfl) dX9_next_k7.1.2.1.2 mw66 0 rfl rfl ?_
          refine k_iconst (v := 1) X dX9_next_k7.1.2.2.1 ic_1 ?_
          refine k_ic_ne 231 X dX9_next_k7.1.2.2.2 (jp_e rfl) (fun h_47 => absurd (iv_eq iv_13 iq_1_1_1) h_47) (fun h_47 => ?_)
          refine k_bipush (v := 8) X dX9_next_k7.2.1.1.1 bi_8 ?_
          refine k_goto 232 X dX9_next_k7.2.1.1.2 (jp_e rfl) ?_
          refine k_ic_le 241 X dX9_next_k7.2.1.2.2 (jp_e rfl) (fun h_48 => ?_) (fun h_48 => ?_)
          · skip
            have j_49 : z_44.toInt ≤ 8 := iv_le h_48
            have iv_50 : IV z_44 (-900) 8 := iv_leL (iv_le h_48) iv_46 iq_8_8_8 (zle_e rfl)
            exact k_vret X hr dX9_next_k7.2.2.2.2 (Nat.le_of_ble_eq_true rfl) (Nat.le_of_ble_eq_true rfl) [0, 1] (vnd_e rfl) rfl rfl (exI5 r_8 u_1 u_14 u_16 u_17 ⟨(iv_w hv_2 (zle_e rfl) (zle_e rfl)), (iv_w iv_35 (zle_e rfl) (zle_e rfl)), (iv_w iv_13 (zle_e rfl) (zle_e rfl)), (KH_1 _ _ _ _ _ ⟨0 + 1, (Or.inr ⟨h_23, ⟨r_39, hq_42, (Or.inl ⟨h_43, ⟨z_44, ez_44, (Or.inl ⟨h_48, ⟨rfl, rfl, rfl, rfl, rfl⟩⟩)⟩⟩)⟩⟩)⟩), rfl⟩)
          · skip
            have j_51 : 8 < z_44.toInt := iv_nle h_48
            have iv_52 : IV z_44 9 899 := iv_ltR (iv_nle h_48) iq_8_8_8 iv_46 (zle_e rfl)
            refine k_aload_n X dX9_next_k7.2.2.1.1 0 rfl ?_
            refine k_bipush (v := 6) X dX9_next_k7.2.2.1.2 bi_6 ?_
            refine k_put (ci := 9) [(cO9_i1r1i2r1i1r2i4l1i2 h0 xtpd th xfn xfp tp xen nm nd 6 u_1 u_14 u_16 u_17 xtk xta), (cAB g tp 900 tpf)] X inlX9 rfl tyX9_ok nmX9 8 (nlt_e rfl) rfl dX9_next_k7.2.2.2.1 mw66 0 rfl rfl rfl (Nat.le_of_ble_eq_true rfl) rfl ?_
            exact k_vret X hr dX9_next_k7.2.2.2.2 (Nat.le_of_ble_eq_true rfl) (Nat.le_of_ble_eq_true rfl) [0, 1] (vnd_e rfl) rfl rfl (exI5 6 u_1 u_14 u_16 u_17 ⟨(iv_w hv_2 (zle_e rfl) (zle_e rfl)), (iv_w iv_35 (zle_e rfl) (zle_e rfl)), (iv_w iq_6_6_6 (zle_e rfl) (zle_e rfl)), (KH_1 _ _ _ _ _ ⟨0 + 1, (Or.inr ⟨h_23, ⟨r_39, hq_42, (Or.inl ⟨h_43, ⟨z_44, ez_44, (Or.inr ⟨h_48, ⟨rfl, rfl, rfl, rfl, rfl⟩⟩)⟩⟩)⟩⟩)⟩), rfl⟩)
        · skip
          have iv_53 : IV r_39 1 1 := iv_meet iv_40 (iv_e h_43 iv_13) (zle_o rfl) (zle_o rfl)
          refine k_aload_n X dX9_next_k3.2.2.2.2 0 rfl ?_
          refine k_aload_n X dX9_next_k4.1.1.1.1 0 rfl ?_
          refine k_get (ci := 9) X inlX9 rfl 12 (nlt_e rfl) dX9_next_k4.1.1.1.2 mw70 0 rfl rfl ?_
          refine k_ldc2 (v := 27) X dX9_next_k4.1.1.2.1 mw241 ?_
          refine k_lmul X dX9_next_k4.1.1.2.2 ?_
          refine k_nmL (fun y_54 ey_54 => ?_)
          refine k_aload_n X dX9_next_k4.1.2.1.1 0 rfl ?_
          refine k_get (ci := 9) X inlX9 rfl 4 (nlt_e rfl) dX9_next_k4.1.2.1.2 mw59 0 rfl rfl ?_
          refine k_aload_n X dX9_next_k4.1.2.2.1 0 rfl ?_
          refine k_get (ci := 9) X inlX9 rfl 10 (nlt_e rfl) dX9_next_k4.1.2.2.2 mw68 0 rfl rfl ?_
          refine k_bald X dX9_next_k4.2.1.1.1 1 rfl (iv_in iv_35 (zle_e rfl) (zle_l rfl)) ?_
          refine k_nm (fun z_55 ez_55 => ?_)
          refine k_bipush (v := 97) X dX9_next_k4.2.1.1.2 bi_97 ?_
          refine k_isub X dX9_next_k4.2.1.2.1 ?_
          refine k_nm (fun z_56 ez_56 => ?_)
          refine k_iconst (v := 1) X dX9_next_k4.2.1.2.2 ic_1 ?_
          refine k_iadd X dX9_next_k4.2.2.1.1 ?_
          refine k_nm (fun z_58 ez_58 => ?_)
          refine k_i2l X dX9_next_k4.2.2.1.2 ?_
          refine k_nmL (fun y_60 ey_60 => ?_)
          refine k_ladd X dX9_next_k4.2.2.2.1 ?_
          refine k_nmL (fun y_61 ey_61 => ?_)
          refine k_put (ci := 9) [(cO9_i1r1i2r1i1r2i4l1i2 h0 xtpd th xfn xfp tp xen nm nd r_8 u_1 u_14 u_16 y_61 xtk xta), (cAB g tp 900 tpf)] X inlX9 rfl tyX9_ok nmX9 12 (nlt_e rfl) rfl dX9_next_k4.2.2.2.2 mw70 0 rfl rfl rfl (Nat.le_of_ble_eq_true rfl) rfl ?_
          refine k_aload_n X dX9_next_k5.1.1.1.1 0 rfl ?_
          refine k_aload_n X dX9_next_k5.1.1.1.2 0 rfl ?_
          refine k_get (ci := 9) X inlX9 rfl 11 (nlt_e rfl) dX9_next_k5.1.1.2.1 mw69 0 rfl rfl ?_
          refine k_bipush (v := 10) X dX9_next_k5.1.1.2.2 bi_10 ?_
          refine k_imul X dX9_next_k5.1.2.1.1 ?_
          refine k_nm (fun z_62 ez_62 => ?_)
          refine k_aload_n X dX9_next_k5.1.2.1.2 0 rfl ?_
          refine k_get (ci := 9) X inlX9 rfl 4 (nlt_e rfl) dX9_next_k5.1.2.2.1 mw59 0 rfl rfl ?_
          refine k_aload_n X dX9_next_k5.1.2.2.2 0 rfl ?_
          refine k_get (ci := 9) X inlX9 rfl 10 (nlt_e rfl) dX9_next_k5.2.1.1.1 mw68 0 rfl rfl ?_
          refine k_bald X dX9_next_k5.2.1.1.2 1 rfl (iv_in iv_35 (zle_e rfl) (zle_l rfl)) ?_
          refine k_nm (fun z_64 ez_64 => ?_)
          refine k_bipush (v := 48) X dX9_next_k5.2.1.2.1 bi_48 ?_
          refine k_isub X dX9_next_k5.2.1.2.2 ?_
          refine k_nm (fun z_65 ez_65 => ?_)
          refine k_iadd X dX9_next_k5.2.2.1.1 ?_
          refine k_nm (fun z_67 ez_67 => ?_)
          refine k_put (ci := 9) [(cO9_i1r1i2r1i1r2i4l1i2 h0 xtpd th xfn xfp tp xen nm nd r_8 u_1 u_14 z_67 y_61 xtk xta), (cAB g tp 900 tpf)] X inlX9 rfl tyX9_ok nmX9 11 (nlt_e rfl) rfl dX9_next_k5.2.2.1.2 mw69 0 rfl rfl rfl (Nat.le_of_ble_eq_true rfl) rfl ?_
          refine k_aload_n X dX9_next_k5.2.2.2.1 0 rfl ?_
          refine k_dup X dX9_next_k5.2.2.2.2 rfl ?_
          refine k_get (ci := 9) X inlX9 rfl 10 (nlt_e rfl) dX9_next_k6.1.1.1.1 mw68 0 rfl rfl ?_
          refine k_iconst (v := 1) X dX9_next_k6.1.1.1.2 ic_1 ?_
          refine k_iadd X dX9_next_k6.1.1.2.1 ?_
          refine k_nm (fun z_69 ez_69 => ?_)
          have i_70 : z_69.toInt = u_14.toInt + 1 := in_add ez_69 iv_35 iq_1_1_1 (zle_e rfl) (zle_e rfl)
          have iv_71 : IV z_69 1 900 := iz1 i_70 iv_35 (zle_e rfl) (zle_e rfl)
          refine k_put (ci := 9) [(cO9_i1r1i2r1i1r2i4l1i2 h0 xtpd th xfn xfp tp xen nm nd r_8 u_1 z_69 z_67 y_61 xtk xta), (cAB g tp 900 tpf)] X inlX9 rfl tyX9_ok nmX9 10 (nlt_e rfl) rfl dX9_next_k6.1.1.2.2 mw68 0 rfl rfl rfl (Nat.le_of_ble_eq_true rfl) rfl ?_
          refine k_goto 82 X dX9_next_k6.1.2.1.1 (jp_e rfl) ?_
          exact ih_20 _ (by omega) z_69 z_67 y_61 rfl (iv_w iv_71 (zle_e rfl) (zle_e rfl)) (fun xkd2 xsta2 xpo2 xva2 xle2 h => h.elim (fun n_1 q => (KH_1 _ _ _ _ _ ⟨n_1 + 1, (Or.inr ⟨h_23, ⟨r_39, hq_42, (Or.inr ⟨h_43, ⟨y_54, ey_54, ⟨z_55, ez_55, ⟨z_56, ez_56, ⟨z_58, ez_58, ⟨y_60, ey_60, ⟨y_61, ey_61, ⟨z_62, ez_62, ⟨z_64, ez_64, ⟨z_65, ez_65, ⟨z_67, ez_67, ⟨z_69, ez_69, q⟩⟩⟩⟩⟩⟩⟩⟩⟩⟩⟩⟩)⟩⟩)⟩)))
    · skip
      refine k_aload_n X dX9_next_k2.1.2.2.1 0 rfl ?_
      refine k_get (ci := 9) X inlX9 rfl 8 (nlt_e rfl) dX9_next_k2.1.2.2.2 mw66 0 rfl rfl ?_
      refine k_iconst (v := 2) X dX9_next_k2.2.1.1.1 ic_2 ?_
      refine k_ic_ne 192 X dX9_next_k2.2.1.1.2 (jp_e rfl) (fun h_72 => ?_) (fun h_72 => ?_)
      · skip
        refine k_aload_n X dX9_next_k6.1.2.1.2 0 rfl ?_
        refine k_get (ci := 9) X inlX9 rfl 8 (nlt_e rfl) dX9_next_k6.1.2.2.1 mw66 0 rfl rfl ?_
        refine k_if_eq 209 X dX9_next_k6.1.2.2.2 (jp_e rfl) (fun h_73 => ?_) (fun h_73 => ?_)
        · skip
          have iv_74 : IV r_8 0 0 := iv_meet iv_9 (iv_e h_73 iq_0_0_0) (zle_o rfl) (zle_o rfl)
          refine k_aload_n X dX9_next_k6.2.2.2.1 0 rfl ?_
          refine k_get (ci := 9) X inlX9 rfl 10 (nlt_e rfl) dX9_next_k6.2.2.2.2 mw68 0 rfl rfl ?_
          refine k_aload_n X dX9_next_k7.1.1.1 0 rfl ?_
          refine k_get (ci := 9) X inlX9 rfl 9 (nlt_e rfl) dX9_next_k7.1.1.2.1 mw67 0 rfl rfl ?_
          refine k_isub X dX9_next_k7.1.1.2.2 ?_
          refine k_nm (fun z_75 ez_75 => ?_)
          have i_76 : z_75.toInt = u_1.toInt - u_1.toInt := in_sub ez_75 hv_2 hv_2 (zle_e rfl) (zle_e rfl)
          have iv_77 : IV z_75 (-900) 900 := by have := hv_2; have := hv_2; rw [IV, i_76]; omega
          refine k_aload_n X dX9_next_k7.1.2.1.1 0 rfl ?_
          refine k_get (ci := 9) X inlX9 rfl 8 (nlt_e rfl) dX9_next_k7.1.2.1.2 mw66 0 rfl rfl ?_
          refine k_iconst (v := 1) X dX9_next_k7.1.2.2.1 ic_1 ?_
          refine k_ic_ne 231 X dX9_next_k7.1.2.2.2 (jp_e rfl) (fun h_78 => ?_) (fun h_78 => (iv_eqN h_78 iv_74 iq_1_1_1 (by decide)).elim)
          refine k_iconst (v := 4) X dX9_next_k7.2.1.2.1 ic_4 ?_
          refine k_ic_le 241 X dX9_next_k7.2.1.2.2 (jp_e rfl) (fun h_79 => ?_) (fun h_79 => ?_)
          · skip
            have j_80 : z_75.toInt ≤ 4 := iv_le h_79
            have iv_81 : IV z_75 (-900) 4 := iv_leL (iv_le h_79) iv_77 iq_4_4_4 (zle_e rfl)
            exact k_vret X hr dX9_next_k7.2.2.2.2 (Nat.le_of_ble_eq_true rfl) (Nat.le_of_ble_eq_true rfl) [0, 1] (vnd_e rfl) rfl rfl (exI5 r_8 u_1 u_1 0 0 ⟨(iv_w hv_2 (zle_e rfl) (zle_e rfl)), (iv_w hv_2 (zle_e rfl) (zle_e rfl)), (iv_w iv_74 (zle_e rfl) (zle_e rfl)), (KH_0 _ _ _ _ _ ⟨0 + 1, (Or.inl ⟨h_6, ⟨r_8, hq_11, (Or.inr ⟨h_12, (Or.inl ⟨h_72, (Or.inl ⟨h_73, ⟨z_75, ez_75, (Or.inl ⟨h_79, ⟨rfl, rfl, rfl, rfl, rfl⟩⟩)⟩⟩)⟩)⟩)⟩⟩)⟩), rfl⟩)
          · skip
            have j_82 : 4 < z_75.toInt := iv_nle h_79
            have iv_83 : IV z_75 5 900 := iv_ltR (iv_nle h_79) iq_4_4_4 iv_77 (zle_e rfl)
            refine k_aload_n X dX9_next_k7.2.2.1.1 0 rfl ?_
            refine k_bipush (v := 6) X dX9_next_k7.2.2.1.2 bi_6 ?_
            refine k_put (ci := 9) [(cO9_i1r1i2r1i1r2i4l1i2 h0 xtpd th xfn xfp tp xen nm nd 6 u_1 u_1 0 0 xtk xta), (cAB g tp 900 tpf)] X inlX9 rfl tyX9_ok nmX9 8 (nlt_e rfl) rfl dX9_next_k7.2.2.2.1 mw66 0 rfl rfl rfl (Nat.le_of_ble_eq_true rfl) rfl ?_
            exact k_vret X hr dX9_next_k7.2.2.2.2 (Nat.le_of_ble_eq_true rfl) (Nat.le_of_ble_eq_true rfl) [0, 1] (vnd_e rfl) rfl rfl (exI5 6 u_1 u_1 0 0 ⟨(iv_w hv_2 (zle_e rfl) (zle_e rfl)), (iv_w hv_2 (zle_e rfl) (zle_e rfl)), (iv_w iq_6_6_6 (zle_e rfl) (zle_e rfl)), (KH_0 _ _ _ _ _ ⟨0 + 1, (Or.inl ⟨h_6, ⟨r_8, hq_11, (Or.inr ⟨h_12, (Or.inl ⟨h_72, (Or.inl ⟨h_73, ⟨z_75, ez_75, (Or.inr ⟨h_79, ⟨rfl, rfl, rfl, rfl, rfl⟩⟩)⟩⟩)⟩)⟩)⟩⟩)⟩), rfl⟩)
        · skip
          have iv_84 : IV r_8 1 6 := iv_neL h_73 iv_9 iq_0_0_0 (zle_e rfl)
          have iv_85 : IV u_1 0 899 := ⟨hv_2.1, by rcases hq_10 with q | q; exact absurd q h_73; have := hv_xen.2; omega⟩
          refine k_aload_n X dX9_next_k6.2.1.1.1 0 rfl ?_
          refine k_dup X dX9_next_k6.2.1.1.2 rfl ?_
          refine k_get (ci := 9) X inlX9 rfl 10 (nlt_e rfl) dX9_next_k6.2.1.2.1 mw68 0 rfl rfl ?_
          refine k_iconst (v := 1) X dX9_next_k6.2.1.2.2 ic_1 ?_
          refine k_iadd X dX9_next_k6.2.2.1.1 ?_
          refine k_nm (fun z_86 ez_86 => ?_)
          have i_87 : z_86.toInt = u_1.toInt + 1 := in_add ez_86 iv_85 iq_1_1_1 (zle_e rfl) (zle_e rfl)
          have iv_88 : IV z_86 1 900 := iz1 i_87 iv_85 (zle_e rfl) (zle_e rfl)
          refine k_put (ci := 9) [(cO9_i1r1i2r1i1r2i4l1i2 h0 xtpd th xfn xfp tp xen nm nd r_8 u_1 z_86 0 0 xtk xta), (cAB g tp 900 tpf)] X inlX9 rfl tyX9_ok nmX9 10 (nlt_e rfl) rfl dX9_next_k6.2.2.1.2 mw68 0 rfl rfl rfl (Nat.le_of_ble_eq_true rfl) rfl ?_
          refine k_aload_n X dX9_next_k6.2.2.2.1 0 rfl ?_
          refine k_get (ci := 9) X inlX9 rfl 10 (nlt_e rfl) dX9_next_k6.2.2.2.2 mw68 0 rfl rfl ?_
          refine k_aload_n X dX9_next_k7.1.1.1 0 rfl ?_
          refine k_get (ci := 9) X inlX9 rfl 9 (nlt_e rfl) dX9_next_k7.1.1.2.1 mw67 0 rfl rfl ?_
          refine k_isub X dX9_next_k7.1.1.2.2 ?_
          refine k_nm (fun z_89 ez_89 => ?_)
          have i_90 : z_89.toInt = z_86.toInt - u_1.toInt := in_sub ez_89 iv_88 iv_85 (zle_e rfl) (zle_e rfl)
          have iv_91 : IV z_89 (-898) 900 := by have := iv_88; have := iv_85; rw [IV, i_90]; omega
          refine k_aload_n X dX9_next_k7.1.2.1.1 0 rfl ?_
          refine k_get (ci := 9) X inlX9 rfl 8 (nlt_e rfl) dX9_next_k7.1.2.1.2 mw66 0 rfl rfl ?_
          refine k_iconst (v := 1) X dX9_next_k7.1.2.2.1 ic_1 ?_
          refine k_ic_ne 231 X dX9_next_k7.1.2.2.2 (jp_e rfl) (fun h_92 => ?_) (fun h_92 => ?_)
          · skip
            have iv_93 : IV r_8 2 6 := iv_neL h_92 iv_84 iq_1_1_1 (zle_e rfl)
            refine k_iconst (v := 4) X dX9_next_k7.2.1.2.1 ic_4 ?_
            refine k_ic_le 241 X dX9_next_k7.2.1.2.2 (jp_e rfl) (fun h_94 => ?_) (fun h_94 => ?_)
            · skip
              have j_95 : z_89.toInt ≤ 4 := iv_le h_94
              have iv_96 : IV z_89 (-898) 4 := iv_leL (iv_le h_94) iv_91 iq_4_4_4 (zle_e rfl)
              exact k_vret X hr dX9_next_k7.2.2.2.2 (Nat.le_of_ble_eq_true rfl) (Nat.le_of_ble_eq_true rfl) [0, 1] (vnd_e rfl) rfl rfl (exI5 r_8 u_1 z_86 0 0 ⟨(iv_w iv_85 (zle_e rfl) (zle_e rfl)), (iv_w iv_88 (zle_e rfl) (zle_e rfl)), (iv_w iv_93 (zle_e rfl) (zle_e rfl)), (KH_0 _ _ _ _ _ ⟨0 + 1, (Or.inl ⟨h_6, ⟨r_8, hq_11, (Or.inr ⟨h_12, (Or.inl ⟨h_72, (Or.inr ⟨h_73, ⟨z_86, ez_86, ⟨z_89, ez_89, (Or.inl ⟨h_92, (Or.inl ⟨h_94, ⟨rfl, rfl, rfl, rfl, rfl⟩⟩)⟩)⟩⟩⟩)⟩)⟩)⟩⟩)⟩), rfl⟩)
            · skip
              have j_97 : 4 < z_89.toInt := iv_nle h_94
              have iv_98 : IV z_89 5 900 := iv_ltR (iv_nle h_94) iq_4_4_4 iv_91 (zle_e rfl)
              refine k_aload_n X dX9_next_k7.2.2.1.1 0 rfl ?_
              refine k_bipush (v := 6) X dX9_next_k7.2.2.1.2 bi_6 ?_
              refine k_put (ci := 9) [(cO9_i1r1i2r1i1r2i4l1i2 h0 xtpd th xfn xfp tp xen nm nd 6 u_1 z_86 0 0 xtk xta), (cAB g tp 900 tpf)] X inlX9 rfl tyX9_ok nmX9 8 (nlt_e rfl) rfl dX9_next_k7.2.2.2.1 mw66 0 rfl rfl rfl (Nat.le_of_ble_eq_true rfl) rfl ?_
              exact k_vret X hr dX9_next_k7.2.2.2.2 (Nat.le_of_ble_eq_true rfl) (Nat.le_of_ble_eq_true rfl) [0, 1] (vnd_e rfl) rfl rfl (exI5 6 u_1 z_86 0 0 ⟨(iv_w iv_85 (zle_e rfl) (zle_e rfl)), (iv_w iv_88 (zle_e rfl) (zle_e rfl)), (iv_w iq_6_6_6 (zle_e rfl) (zle_e rfl)), (KH_0 _ _ _ _ _ ⟨0 + 1, (Or.inl ⟨h_6, ⟨r_8, hq_11, (Or.inr ⟨h_12, (Or.inl ⟨h_72, (Or.inr ⟨h_73, ⟨z_86, ez_86, ⟨z_89, ez_89, (Or.inl ⟨h_92, (Or.inr ⟨h_94, ⟨rfl, rfl, rfl, rfl, rfl⟩⟩)⟩)⟩⟩⟩)⟩)⟩)⟩⟩)⟩), rfl⟩)
          · skip
            have iv_99 : IV r_8 1 1 := iv_meet iv_84 (iv_e h_92 iq_1_1_1) (zle_o rfl) (zle_o rfl)
            refine k_bipush (v := 8) X dX9_next_k7.2.1.1.1 bi_8 ?_
            refine k_goto 232 X dX9_next_k7.2.1.1.2 (jp_e rfl) ?_
            refine k_ic_le 241 X dX9_next_k7.2.1.2.2 (jp_e rfl) (fun h_100 => ?_) (fun h_100 => ?_)
            · skip
              have j_101 : z_89.toInt ≤ 8 := iv_le h_100
              have iv_102 : IV z_89 (-898) 8 := iv_leL (iv_le h_100) iv_91 iq_8_8_8 (zle_e rfl)
              exact k_vret X hr dX9_next_k7.2.2.2.2 (Nat.le_of_ble_eq_true rfl) (Nat.le_of_ble_eq_true rfl) [0, 1] (vnd_e rfl) rfl rfl (exI5 r_8 u_1 z_86 0 0 ⟨(iv_w iv_85 (zle_e rfl) (zle_e rfl)), (iv_w iv_88 (zle_e rfl) (zle_e rfl)), (iv_w iv_99 (zle_e rfl) (zle_e rfl)), (KH_0 _ _ _ _ _ ⟨0 + 1, (Or.inl ⟨h_6, ⟨r_8, hq_11, (Or.inr ⟨h_12, (Or.inl ⟨h_72, (Or.inr ⟨h_73, ⟨z_86, ez_86, ⟨z_89, ez_89, (Or.inr ⟨h_92, (Or.inl ⟨h_100, ⟨rfl, rfl, rfl, rfl, rfl⟩⟩)⟩)⟩⟩⟩)⟩)⟩)⟩⟩)⟩), rfl⟩)
            · skip
              have j_103 : 8 < z_89.toInt := iv_nle h_100
              have iv_104 : IV z_89 9 900 := iv_ltR (iv_nle h_100) iq_8_8_8 iv_91 (zle_e rfl)
              refine k_aload_n X dX9_next_k7.2.2.1.1 0 rfl ?_
              refine k_bipush (v := 6) X dX9_next_k7.2.2.1.2 bi_6 ?_
              refine k_put (ci := 9) [(cO9_i1r1i2r1i1r2i4l1i2 h0 xtpd th xfn xfp tp xen nm nd 6 u_1 z_86 0 0 xtk xta), (cAB g tp 900 tpf)] X inlX9 rfl tyX9_ok nmX9 8 (nlt_e rfl) rfl dX9_next_k7.2.2.2.1 mw66 0 rfl rfl rfl (Nat.le_of_ble_eq_true rfl) rfl ?_
              exact k_vret X hr dX9_next_k7.2.2.2.2 (Nat.le_of_ble_eq_true rfl) (Nat.le_of_ble_eq_true rfl) [0, 1] (vnd_e rfl) rfl rfl (exI5 6 u_1 z_86 0 0 ⟨(iv_w iv_85 (zle_e rfl) (zle_e rfl)), (iv_w iv_88 (zle_e rfl) (zle_e rfl)), (iv_w iq_6_6_6 (zle_e rfl) (zle_e rfl)), (KH_0 _ _ _ _ _ ⟨0 + 1, (Or.inl ⟨h_6, ⟨r_8, hq_11, (Or.inr ⟨h_12, (Or.inl ⟨h_72, (Or.inr ⟨h_73, ⟨z_86, ez_86, ⟨z_89, ez_89, (Or.inr ⟨h_92, (Or.inr ⟨h_100, ⟨rfl, rfl, rfl, rfl, rfl⟩⟩)⟩)⟩⟩⟩)⟩)⟩)⟩⟩)⟩), rfl⟩)
      · skip
        have iv_105 : IV r_8 2 2 := iv_meet iv_9 (iv_e h_72 iq_2_2_2) (zle_o rfl) (zle_o rfl)
        refine (fun hL : ∀ (nn_110 : Nat) (u_106 : Int32) (u_108 : Int32) (u_109 : Int64), (xen.toInt - u_106.toInt).toNat = nn_110 → (IV u_106 0 900) → (∀ (xkd2 : Int32) (xsta2 : Int32) (xpo2 : Int32) (xva2 : Int32) (xle2 : Int64), (∃ n_2 : Nat, R_x_nextX_L2 xen tpf r_8 (fun (u_106 : Int32) (u_108 : Int32) (u_109 : Int64) => ∃ z_117 : Int32, z_117 = u_106 - u_1 ∧ (((z_117 ≤ (4 : Int32)) ∧ (xkd2 = r_8 ∧ xsta2 = u_1 ∧ xpo2 = u_106 ∧ xva2 = u_108 ∧ xle2 = u_109)) ∨ ((¬ (z_117 ≤ (4 : Int32))) ∧ (xkd2 = 6 ∧ xsta2 = u_1 ∧ xpo2 = u_106 ∧ xva2 = u_108 ∧ xle2 = u_109)))) (fun (u_106 : Int32) (u_108 : Int32) (u_109 : Int64) => ∃ z_136 : Int32, z_136 = u_106 - u_1 ∧ (((z_136 ≤ (4 : Int32)) ∧ (xkd2 = r_8 ∧ xsta2 = u_1 ∧ xpo2 = u_106 ∧ xva2 = u_108 ∧ xle2 = u_109)) ∨ ((¬ (z_136 ≤ (4 : Int32))) ∧ (xkd2 = 6 ∧ xsta2 = u_1 ∧ xpo2 = u_106 ∧ xva2 = u_108 ∧ xle2 = u_109)))) n_2 u_106 u_108 u_109) → R_x_nextX xen xpo tpf xkd2 xsta2 xpo2 xva2 xle2) → Wk p l e _ s m args below meth c _ A g _ _ _ [(cO9_i1r1i2r1i1r2i4l1i2 h0 xtpd th xfn xfp tp xen nm nd r_8 u_1 u_106 u_108 u_109 xtk xta), (cAB g tp 900 tpf)] [(0, .ref h0)] 82 [] => hL _ u_1 0 0 rfl (iv_w hv_2 (zle_e rfl) (zle_e rfl)) (fun xkd2 xsta2 xpo2 xva2 xle2 h => (KH_0 _ _ _ _ _ ⟨0 + 1, (Or.inl ⟨h_6, ⟨r_8, hq_11, (Or.inr ⟨h_12, (Or.inr ⟨h_72, h⟩)⟩)⟩⟩)⟩))) ?_
        refine fun nn_110 => Nat.strongRecOn nn_110 (fun nn_110 ih_112 => ?_)
        intro u_106 u_108 u_109 hm_111 hv_107 KH_2
        refine k_aload_n X dX9_next_k2.2.1.2.1 0 rfl ?_
        refine k_get (ci := 9) X inlX9 rfl 10 (nlt_e rfl) dX9_next_k2.2.1.2.2 mw68 0 rfl rfl ?_
        refine k_if_lt 209 X dX9_next_k2.2.2.1.1 (jp_e rfl) (fun h_113 => (iv_ltN (iv_lt h_113) hv_107 iq_0_0_0 (zle_e rfl)).elim) (fun h_113 => ?_)
        have j_114 : 0 ≤ u_106.toInt := iv_nlt h_113
        refine k_aload_n X dX9_next_k2.2.2.1.2 0 rfl ?_
        refine k_get (ci := 9) X inlX9 rfl 10 (nlt_e rfl) dX9_next_k2.2.2.2.1 mw68 0 rfl rfl ?_
        refine k_aload_n X dX9_next_k2.2.2.2.2 0 rfl ?_
        refine k_get (ci := 9) X inlX9 rfl 5 (nlt_e rfl) dX9_next_k3.1.1.1.1 mw60 0 rfl rfl ?_
        refine k_ic_ge 209 X dX9_next_k3.1.1.1.2 (jp_e rfl) (fun h_115 => ?_) (fun h_115 => ?_)
        · skip
          have j_116 : xen.toInt ≤ u_106.toInt := iv_le h_115
          refine k_aload_n X dX9_next_k6.2.2.2.1 0 rfl ?_
          refine k_get (ci := 9) X inlX9 rfl 10 (nlt_e rfl) dX9_next_k6.2.2.2.2 mw68 0 rfl rfl ?_
          refine k_aload_n X dX9_next_k7.1.1.1 0 rfl ?_
          refine k_get (ci := 9) X inlX9 rfl 9 (nlt_e rfl) dX9_next_k7.1.1.2.1 mw67 0 rfl rfl ?_
          refine k_isub X dX9_next_k7.1.1.2.2 ?_
          refine k_nm (fun z_117 ez_117 => ?_)
          have i_118 : z_117.toInt = u_106.toInt - u_1.toInt := in_sub ez_117 hv_107 hv_2 (zle_e rfl) (zle_e rfl)
          have iv_119 : IV z_117 (-900) 900 := by have := hv_107; have := hv_2; rw [IV, i_118]; omega
          refine k_aload_n X dX9_next_k7.1.2.1.1 0 rfl ?_
          refine k_get (ci := 9) X inlX9 rfl 8 (nlt_e rfl) dX9_next_k7.1.2.1.2 mw66 0 rfl rfl ?_
          refine k_iconst (v := 1) X dX9_next_k7.1.2.2.1 ic_1 ?_
          refine k_ic_ne 231 X dX9_next_k7.1.2.2.2 (jp_e rfl) (fun h_120 => ?_) (fun h_120 => (iv_eqN h_120 iv_105 iq_1_1_1 (by decide)).elim)
          refine k_iconst (v := 4) X dX9_next_k7.2.1.2.1 ic_4 ?_
          refine k_ic_le 241 X dX9_next_k7.2.1.2.2 (jp_e rfl) (fun h_121 => ?_) (fun h_121 => ?_)
          · skip
            have j_122 : z_117.toInt ≤ 4 := iv_le h_121
            have iv_123 : IV z_117 (-900) 4 := iv_leL (iv_le h_121) iv_119 iq_4_4_4 (zle_e rfl)
            exact k_vret X hr dX9_next_k7.2.2.2.2 (Nat.le_of_ble_eq_true rfl) (Nat.le_of_ble_eq_true rfl) [0, 1] (vnd_e rfl) rfl rfl (exI5 r_8 u_1 u_106 u_108 u_109 ⟨(iv_w hv_2 (zle_e rfl) (zle_e rfl)), (iv_w hv_107 (zle_e rfl) (zle_e rfl)), (iv_w iv_105 (zle_e rfl) (zle_e rfl)), (KH_2 _ _ _ _ _ ⟨0 + 1, (Or.inl ⟨h_115, ⟨z_117, ez_117, (Or.inl ⟨h_121, ⟨rfl, rfl, rfl, rfl, rfl⟩⟩)⟩⟩)⟩), rfl⟩)
          · skip
            have j_124 : 4 < z_117.toInt := iv_nle h_121
            have iv_125 : IV z_117 5 900 := iv_ltR (iv_nle h_121) iq_4_4_4 iv_119 (zle_e rfl)
            refine k_aload_n X dX9_next_k7.2.2.1.1 0 rfl ?_
            refine k_bipush (v := 6) X dX9_next_k7.2.2.1.2 bi_6 ?_
            refine k_put (ci := 9) [(cO9_i1r1i2r1i1r2i4l1i2 h0 xtpd th xfn xfp tp xen nm nd 6 u_1 u_106 u_108 u_109 xtk xta), (cAB g tp 900 tpf)] X inlX9 rfl tyX9_ok nmX9 8 (nlt_e rfl) rfl dX9_next_k7.2.2.2.1 mw66 0 rfl rfl rfl (Nat.le_of_ble_eq_true rfl) rfl ?_
            exact k_vret X hr dX9_next_k7.2.2.2.2 (Nat.le_of_ble_eq_true rfl) (Nat.le_of_ble_eq_true rfl) [0, 1] (vnd_e rfl) rfl rfl (exI5 6 u_1 u_106 u_108 u_109 ⟨(iv_w hv_2 (zle_e rfl) (zle_e rfl)), (iv_w hv_107 (zle_e rfl) (zle_e rfl)), (iv_w iq_6_6_6 (zle_e rfl) (zle_e rfl)), (KH_2 _ _ _ _ _ ⟨0 + 1, (Or.inl ⟨h_115, ⟨z_117, ez_117, (Or.inr ⟨h_121, ⟨rfl, rfl, rfl, rfl, rfl⟩⟩)⟩⟩)⟩), rfl⟩)
        · skip
          have j_126 : u_106.toInt < xen.toInt := iv_nle h_115
          have iv_127 : IV u_106 0 899 := iv_ltL (iv_nle h_115) hv_107 hv_xen (zle_e rfl)
          have iv_128 : IV xen 1 900 := iv_ltR (iv_nle h_115) hv_107 hv_xen (zle_e rfl)
          refine k_aload_n X dX9_next_k3.1.1.2.1 0 rfl ?_
          refine k_get (ci := 9) X inlX9 rfl 10 (nlt_e rfl) dX9_next_k3.1.1.2.2 mw68 0 rfl rfl ?_
          refine k_aload_n X dX9_next_k3.1.2.1.1 0 rfl ?_
          refine k_get (ci := 9) X inlX9 rfl 4 (nlt_e rfl) dX9_next_k3.1.2.1.2 mw59 0 rfl rfl ?_
          refine k_alen 900 0 X dX9_next_k3.1.2.2.1 1 rfl rfl (by show Int32.ofNat 900 = 900; decide) ?_
          refine k_ic_ge 209 X dX9_next_k3.1.2.2.2 (jp_e rfl) (fun h_129 => (iv_leN (iv_le h_129) iq_900_900_900 iv_127 (by decide)).elim) (fun h_129 => ?_)
          have j_130 : u_106.toInt < 900 := iv_nle h_129
          refine k_aload_n X dX9_next_k3.2.1.1.1 0 rfl ?_
          refine k_aload_n X dX9_next_k3.2.1.1.2 0 rfl ?_
          refine k_get (ci := 9) X inlX9 rfl 10 (nlt_e rfl) dX9_next_k3.2.1.2.1 mw68 0 rfl rfl ?_
          refine k_callVI (n := 1) (As := [.int u_106]) (st := []) X [(cO9_i1r1i2r1i1r2i4l1i2 h0 xtpd th xfn xfp tp xen nm nd r_8 u_1 u_106 u_108 u_109 xtk xta), (cAB g tp 900 tpf)] [] [0, 1] [] (x_kindAtX l g h0 u_106 xtpd th xfn xfp tp xen nm nd r_8 u_1 u_106 u_108 u_109 xtk xta tpf) dX9_next_k3.2.1.2.2 mw242 mw243 mw244 mw15 mw245 rfl 9 rfl rfl 0 _ rfl yk_yX9_kindAt_1 rfl (Nat.le_of_ble_eq_true rfl) (Nat.le_of_ble_eq_true rfl) (Nat.le_of_ble_eq_true rfl) (Nat.le_of_ble_eq_true rfl) (Nat.le_of_ble_eq_true rfl) rfl rfl (vnd_e rfl) rfl (vnd_e rfl) (dsj_e rfl) ?_
          rintro r_131 w ⟨iv_132, hq_133, hq_134, rfl⟩
          refine k_ws [(cO9_i1r1i2r1i1r2i4l1i2 h0 xtpd th xfn xfp tp xen nm nd r_8 u_1 u_106 u_108 u_109 xtk xta), (cAB g tp 900 tpf)] rfl ?_
          refine k_aload_n X dX9_next_k3.2.2.1.1 0 rfl ?_
          refine k_get (ci := 9) X inlX9 rfl 8 (nlt_e rfl) dX9_next_k3.2.2.1.2 mw66 0 rfl rfl ?_
          refine k_ic_ne 209 X dX9_next_k3.2.2.2.1 (jp_e rfl) (fun h_135 => ?_) (fun h_135 => ?_)
          · skip
            refine k_aload_n X dX9_next_k6.2.2.2.1 0 rfl ?_
            refine k_get (ci := 9) X inlX9 rfl 10 (nlt_e rfl) dX9_next_k6.2.2.2.2 mw68 0 rfl rfl ?_
            refine k_aload_n X dX9_next_k7.1.1.1 0 rfl ?_
            refine k_get (ci := 9) X inlX9 rfl 9 (nlt_e rfl) dX9_next_k7.1.1.2.1 mw67 0 rfl rfl ?_
            refine k_isub X dX9_next_k7.1.1.2.2 ?_
            refine k_nm (fun z_136 ez_136 => ?_)
            have i_137 : z_136.toInt = u_106.toInt - u_1.toInt := in_sub ez_136 iv_127 hv_2 (zle_e rfl) (zle_e rfl)
            have iv_138 : IV z_136 (-900) 899 := by have := iv_127; have := hv_2; rw [IV, i_137]; omega
            refine k_aload_n X dX9_next_k7.1.2.1.1 0 rfl ?_
            refine k_get (ci := 9) X inlX9 rfl 8 (nlt_e rfl) dX9_next_k7.1.2.1.2 mw66 0 rfl rfl ?_
            refine k_iconst (v := 1) X dX9_next_k7.1.2.2.1 ic_1 ?_
            refine k_ic_ne 231 X dX9_next_k7.1.2.2.2 (jp_e rfl) (fun h_139 => ?_) (fun h_139 => (iv_eqN h_139 iv_105 iq_1_1_1 (by decide)).elim)
            refine k_iconst (v := 4) X dX9_next_k7.2.1.2.1 ic_4 ?_
            refine k_ic_le 241 X dX9_next_k7.2.1.2.2 (jp_e rfl) (fun h_140 => ?_) (fun h_140 => ?_)
            · skip
              have j_141 : z_136.toInt ≤ 4 := iv_le h_140
              have iv_142 : IV z_136 (-900) 4 := iv_leL (iv_le h_140) iv_138 iq_4_4_4 (zle_e rfl)
              exact k_vret X hr dX9_next_k7.2.2.2.2 (Nat.le_of_ble_eq_true rfl) (Nat.le_of_ble_eq_true rfl) [0, 1] (vnd_e rfl) rfl rfl (exI5 r_8 u_1 u_106 u_108 u_109 ⟨(iv_w hv_2 (zle_e rfl) (zle_e rfl)), (iv_w iv_127 (zle_e rfl) (zle_e rfl)), (iv_w iv_105 (zle_e rfl) (zle_e rfl)), (KH_2 _ _ _ _ _ ⟨0 + 1, (Or.inr ⟨h_115, ⟨r_131, hq_134, (Or.inl ⟨h_135, ⟨z_136, ez_136, (Or.inl ⟨h_140, ⟨rfl, rfl, rfl, rfl, rfl⟩⟩)⟩⟩)⟩⟩)⟩), rfl⟩)
            · skip
              have j_143 : 4 < z_136.toInt := iv_nle h_140
              have iv_144 : IV z_136 5 899 := iv_ltR (iv_nle h_140) iq_4_4_4 iv_138 (zle_e rfl)
              refine k_aload_n X dX9_next_k7.2.2.1.1 0 rfl ?_
              refine k_bipush (v := 6) X dX9_next_k7.2.2.1.2 bi_6 ?_
              refine k_put (ci := 9) [(cO9_i1r1i2r1i1r2i4l1i2 h0 xtpd th xfn xfp tp xen nm nd 6 u_1 u_106 u_108 u_109 xtk xta), (cAB g tp 900 tpf)] X inlX9 rfl tyX9_ok nmX9 8 (nlt_e rfl) rfl dX9_next_k7.2.2.2.1 mw66 0 rfl rfl rfl (Nat.le_of_ble_eq_true rfl) rfl ?_
              exact k_vret X hr dX9_next_k7.2.2.2.2 (Nat.le_of_ble_eq_true rfl) (Nat.le_of_ble_eq_true rfl) [0, 1] (vnd_e rfl) rfl rfl (exI5 6 u_1 u_106 u_108 u_109 ⟨(iv_w hv_2 (zle_e rfl) (zle_e rfl)), (iv_w iv_127 (zle_e rfl) (zle_e rfl)), (iv_w iq_6_6_6 (zle_e rfl) (zle_e rfl)), (KH_2 _ _ _ _ _ ⟨0 + 1, (Or.inr ⟨h_115, ⟨r_131, hq_134, (Or.inl ⟨h_135, ⟨z_136, ez_136, (Or.inr ⟨h_140, ⟨rfl, rfl, rfl, rfl, rfl⟩⟩)⟩⟩)⟩⟩)⟩), rfl⟩)
          · skip
            have iv_145 : IV r_131 2 2 := iv_meet iv_132 (iv_e h_135 iv_105) (zle_o rfl) (zle_o rfl)
            refine k_aload_n X dX9_next_k3.2.2.2.2 0 rfl ?_
            refine k_aload_n X dX9_next_k4.1.1.1.1 0 rfl ?_
            refine k_get (ci := 9) X inlX9 rfl 12 (nlt_e rfl) dX9_next_k4.1.1.1.2 mw70 0 rfl rfl ?_
            refine k_ldc2 (v := 27) X dX9_next_k4.1.1.2.1 mw241 ?_
            refine k_lmul X dX9_next_k4.1.1.2.2 ?_
            refine k_nmL (fun y_146 ey_146 => ?_)
            refine k_aload_n X dX9_next_k4.1.2.1.1 0 rfl ?_
            refine k_get (ci := 9) X inlX9 rfl 4 (nlt_e rfl) dX9_next_k4.1.2.1.2 mw59 0 rfl rfl ?_
            refine k_aload_n X dX9_next_k4.1.2.2.1 0 rfl ?_
            refine k_get (ci := 9) X inlX9 rfl 10 (nlt_e rfl) dX9_next_k4.1.2.2.2 mw68 0 rfl rfl ?_
            refine k_bald X dX9_next_k4.2.1.1.1 1 rfl (iv_in iv_127 (zle_e rfl) (zle_l rfl)) ?_
            refine k_nm (fun z_147 ez_147 => ?_)
            refine k_bipush (v := 97) X dX9_next_k4.2.1.1.2 bi_97 ?_
            refine k_isub X dX9_next_k4.2.1.2.1 ?_
            refine k_nm (fun z_148 ez_148 => ?_)
            refine k_iconst (v := 1) X dX9_next_k4.2.1.2.2 ic_1 ?_
            refine k_iadd X dX9_next_k4.2.2.1.1 ?_
            refine k_nm (fun z_150 ez_150 => ?_)
            refine k_i2l X dX9_next_k4.2.2.1.2 ?_
            refine k_nmL (fun y_152 ey_152 => ?_)
            refine k_ladd X dX9_next_k4.2.2.2.1 ?_
            refine k_nmL (fun y_153 ey_153 => ?_)
            refine k_put (ci := 9) [(cO9_i1r1i2r1i1r2i4l1i2 h0 xtpd th xfn xfp tp xen nm nd r_8 u_1 u_106 u_108 y_153 xtk xta), (cAB g tp 900 tpf)] X inlX9 rfl tyX9_ok nmX9 12 (nlt_e rfl) rfl dX9_next_k4.2.2.2.2 mw70 0 rfl rfl rfl (Nat.le_of_ble_eq_true rfl) rfl ?_
            refine k_aload_n X dX9_next_k5.1.1.1.1 0 rfl ?_
            refine k_aload_n X dX9_next_k5.1.1.1.2 0 rfl ?_
            refine k_get (ci := 9) X inlX9 rfl 11 (nlt_e rfl) dX9_next_k5.1.1.2.1 mw69 0 rfl rfl ?_
            refine k_bipush (v := 10) X dX9_next_k5.1.1.2.2 bi_10 ?_
            refine k_imul X dX9_next_k5.1.2.1.1 ?_
            refine k_nm (fun z_154 ez_154 => ?_)
            refine k_aload_n X dX9_next_k5.1.2.1.2 0 rfl ?_
            refine k_get (ci := 9) X inlX9 rfl 4 (nlt_e rfl) dX9_next_k5.1.2.2.1 mw59 0 rfl rfl ?_
            refine k_aload_n X dX9_next_k5.1.2.2.2 0 rfl ?_
            refine k_get (ci := 9) X inlX9 rfl 10 (nlt_e rfl) dX9_next_k5.2.1.1.1 mw68 0 rfl rfl ?_
            refine k_bald X dX9_next_k5.2.1.1.2 1 rfl (iv_in iv_127 (zle_e rfl) (zle_l rfl)) ?_
            refine k_nm (fun z_156 ez_156 => ?_)
            refine k_bipush (v := 48) X dX9_next_k5.2.1.2.1 bi_48 ?_
            refine k_isub X dX9_next_k5.2.1.2.2 ?_
            refine k_nm (fun z_157 ez_157 => ?_)
            refine k_iadd X dX9_next_k5.2.2.1.1 ?_
            refine k_nm (fun z_159 ez_159 => ?_)
            refine k_put (ci := 9) [(cO9_i1r1i2r1i1r2i4l1i2 h0 xtpd th xfn xfp tp xen nm nd r_8 u_1 u_106 z_159 y_153 xtk xta), (cAB g tp 900 tpf)] X inlX9 rfl tyX9_ok nmX9 11 (nlt_e rfl) rfl dX9_next_k5.2.2.1.2 mw69 0 rfl rfl rfl (Nat.le_of_ble_eq_true rfl) rfl ?_
            refine k_aload_n X dX9_next_k5.2.2.2.1 0 rfl ?_
            refine k_dup X dX9_next_k5.2.2.2.2 rfl ?_
            refine k_get (ci := 9) X inlX9 rfl 10 (nlt_e rfl) dX9_next_k6.1.1.1.1 mw68 0 rfl rfl ?_
            refine k_iconst (v := 1) X dX9_next_k6.1.1.1.2 ic_1 ?_
            refine k_iadd X dX9_next_k6.1.1.2.1 ?_
            refine k_nm (fun z_161 ez_161 => ?_)
            have i_162 : z_161.toInt = u_106.toInt + 1 := in_add ez_161 iv_127 iq_1_1_1 (zle_e rfl) (zle_e rfl)
            have iv_163 : IV z_161 1 900 := iz1 i_162 iv_127 (zle_e rfl) (zle_e rfl)
            refine k_put (ci := 9) [(cO9_i1r1i2r1i1r2i4l1i2 h0 xtpd th xfn xfp tp xen nm nd r_8 u_1 z_161 z_159 y_153 xtk xta), (cAB g tp 900 tpf)] X inlX9 rfl tyX9_ok nmX9 10 (nlt_e rfl) rfl dX9_next_k6.1.1.2.2 mw68 0 rfl rfl rfl (Nat.le_of_ble_eq_true rfl) rfl ?_
            refine k_goto 82 X dX9_next_k6.1.2.1.1 (jp_e rfl) ?_
            exact ih_112 _ (by omega) z_161 z_159 y_153 rfl (iv_w iv_163 (zle_e rfl) (zle_e rfl)) (fun xkd2 xsta2 xpo2 xva2 xle2 h => h.elim (fun n_2 q => (KH_2 _ _ _ _ _ ⟨n_2 + 1, (Or.inr ⟨h_115, ⟨r_131, hq_134, (Or.inr ⟨h_135, ⟨y_146, ey_146, ⟨z_147, ez_147, ⟨z_148, ez_148, ⟨z_150, ez_150, ⟨y_152, ey_152, ⟨y_153, ey_153, ⟨z_154, ez_154, ⟨z_156, ez_156, ⟨z_157, ez_157, ⟨z_159, ez_159, ⟨z_161, ez_161, q⟩⟩⟩⟩⟩⟩⟩⟩⟩⟩⟩⟩)⟩⟩)⟩)))
  · skip
    have j_164 : u_1.toInt < xen.toInt := iv_nle h_6
    have iv_165 : IV u_1 0 899 := iv_ltL (iv_nle h_6) hv_2 hv_xen (zle_e rfl)
    have iv_166 : IV xen 1 900 := iv_ltR (iv_nle h_6) hv_2 hv_xen (zle_e rfl)
    refine k_aload_n X dX9_next_k0.1.2.1.2 0 rfl ?_
    refine k_aload_n X dX9_next_k0.1.2.2.1 0 rfl ?_
    refine k_get (ci := 9) X inlX9 rfl 10 (nlt_e rfl) dX9_next_k0.1.2.2.2 mw68 0 rfl rfl ?_
    refine k_callVI (n := 1) (As := [.int u_1]) (st := []) X [(cO9_i1r1i2r1i1r2i4l1i2 h0 xtpd th xfn xfp tp xen nm nd xkd xsta u_1 xva xle xtk xta), (cAB g tp 900 tpf)] [] [0, 1] [] (x_kindAtX l g h0 u_1 xtpd th xfn xfp tp xen nm nd xkd xsta u_1 xva xle xtk xta tpf) dX9_next_k0.2.1.1.1 mw242 mw243 mw244 mw15 mw245 rfl 9 rfl rfl 0 _ rfl yk_yX9_kindAt_1 rfl (Nat.le_of_ble_eq_true rfl) (Nat.le_of_ble_eq_true rfl) (Nat.le_of_ble_eq_true rfl) (Nat.le_of_ble_eq_true rfl) (Nat.le_of_ble_eq_true rfl) rfl rfl (vnd_e rfl) rfl (vnd_e rfl) (dsj_e rfl) ?_
    rintro r_167 w ⟨iv_168, hq_169, hq_170, rfl⟩
    refine k_ws [(cO9_i1r1i2r1i1r2i4l1i2 h0 xtpd th xfn xfp tp xen nm nd xkd xsta u_1 xva xle xtk xta), (cAB g tp 900 tpf)] rfl ?_
    refine k_iconst (v := 5) X dX9_next_k0.2.1.1.2 ic_5 ?_
    refine k_ic_ne 36 X dX9_next_k0.2.1.2.1 (jp_e rfl) (fun h_171 => ?_) (fun h_171 => ?_)
    · skip
      refine k_aload_n X dX9_next_k1.1.1.2.1 0 rfl ?_
      refine k_aload_n X dX9_next_k1.1.1.2.2 0 rfl ?_
      refine k_get (ci := 9) X inlX9 rfl 10 (nlt_e rfl) dX9_next_k1.1.2.1.1 mw68 0 rfl rfl ?_
      refine k_put (ci := 9) [(cO9_i1r1i2r1i1r2i4l1i2 h0 xtpd th xfn xfp tp xen nm nd xkd u_1 u_1 xva xle xtk xta), (cAB g tp 900 tpf)] X inlX9 rfl tyX9_ok nmX9 9 (nlt_e rfl) rfl dX9_next_k1.1.2.1.2 mw67 0 rfl rfl rfl (Nat.le_of_ble_eq_true rfl) rfl ?_
      refine k_aload_n X dX9_next_k1.1.2.2.1 0 rfl ?_
      refine k_aload_n X dX9_next_k1.1.2.2.2 0 rfl ?_
      refine k_aload_n X dX9_next_k1.2.1.1.1 0 rfl ?_
      refine k_get (ci := 9) X inlX9 rfl 9 (nlt_e rfl) dX9_next_k1.2.1.1.2 mw67 0 rfl rfl ?_
      refine k_callVI (n := 1) (As := [.int u_1]) (st := [.ref h0]) X [(cO9_i1r1i2r1i1r2i4l1i2 h0 xtpd th xfn xfp tp xen nm nd xkd u_1 u_1 xva xle xtk xta), (cAB g tp 900 tpf)] [] [0, 1] [] (x_kindAtX l g h0 u_1 xtpd th xfn xfp tp xen nm nd xkd u_1 u_1 xva xle xtk xta tpf) dX9_next_k1.2.1.2.1 mw242 mw243 mw244 mw15 mw245 rfl 9 rfl rfl 0 _ rfl yk_yX9_kindAt_1 rfl (Nat.le_of_ble_eq_true rfl) (Nat.le_of_ble_eq_true rfl) (Nat.le_of_ble_eq_true rfl) (Nat.le_of_ble_eq_true rfl) (Nat.le_of_ble_eq_true rfl) rfl rfl (vnd_e rfl) rfl (vnd_e rfl) (dsj_e rfl) ?_
      rintro r_172 w ⟨iv_173, hq_174, hq_175, rfl⟩
      refine k_ws [(cO9_i1r1i2r1i1r2i4l1i2 h0 xtpd th xfn xfp tp xen nm nd xkd u_1 u_1 xva xle xtk xta), (cAB g tp 900 tpf)] rfl ?_
      refine k_put (ci := 9) [(cO9_i1r1i2r1i1r2i4l1i2 h0 xtpd th xfn xfp tp xen nm nd r_172 u_1 u_1 xva xle xtk xta), (cAB g tp 900 tpf)] X inlX9 rfl tyX9_ok nmX9 8 (nlt_e rfl) rfl dX9_next_k1.2.1.2.2 mw66 0 rfl rfl rfl (Nat.le_of_ble_eq_true rfl) rfl ?_
      refine k_aload_n X dX9_next_k1.2.2.1.1 0 rfl ?_
      refine k_lconst (v := 0) X dX9_next_k1.2.2.1.2 (by decide) ?_
      refine k_put (ci := 9) [(cO9_i1r1i2r1i1r2i4l1i2 h0 xtpd th xfn xfp tp xen nm nd r_172 u_1 u_1 xva 0 xtk xta), (cAB g tp 900 tpf)] X inlX9 rfl tyX9_ok nmX9 12 (nlt_e rfl) rfl dX9_next_k1.2.2.2.1 mw70 0 rfl rfl rfl (Nat.le_of_ble_eq_true rfl) rfl ?_
      refine k_aload_n X dX9_next_k1.2.2.2.2 0 rfl ?_
      refine k_iconst (v := 0) X dX9_next_k2.1.1.1.1 ic_0 ?_
      refine k_put (ci := 9) [(cO9_i1r1i2r1i1r2i4l1i2 h0 xtpd th xfn xfp tp xen nm nd r_172 u_1 u_1 0 0 xtk xta), (cAB g tp 900 tpf)] X inlX9 rfl tyX9_ok nmX9 11 (nlt_e rfl) rfl dX9_next_k2.1.1.1.2 mw69 0 rfl rfl rfl (Nat.le_of_ble_eq_true rfl) rfl ?_
      refine k_aload_n X dX9_next_k2.1.1.2.1 0 rfl ?_
      refine k_get (ci := 9) X inlX9 rfl 8 (nlt_e rfl) dX9_next_k2.1.1.2.2 mw66 0 rfl rfl ?_
      refine k_iconst (v := 1) X dX9_next_k2.1.2.1.1 ic_1 ?_
      refine k_ic_eq 82 X dX9_next_k2.1.2.1.2 (jp_e rfl) (fun h_176 => ?_) (fun h_176 => ?_)
      · skip
        have iv_177 : IV r_172 1 1 := iv_meet iv_173 (iv_e h_176 iq_1_1_1) (zle_o rfl) (zle_o rfl)
        refine (fun hL : ∀ (nn_182 : Nat) (u_178 : Int32) (u_180 : Int32) (u_181 : Int64), (xen.toInt - u_178.toInt).toNat = nn_182 → (IV u_178 0 900) → (∀ (xkd2 : Int32) (xsta2 : Int32) (xpo2 : Int32) (xva2 : Int32) (xle2 : Int64), (∃ n_3 : Nat, R_x_nextX_L3 xen tpf r_172 (fun (u_178 : Int32) (u_180 : Int32) (u_181 : Int64) => ∃ z_190 : Int32, z_190 = u_178 - u_1 ∧ (((z_190 ≤ (8 : Int32)) ∧ (xkd2 = r_172 ∧ xsta2 = u_1 ∧ xpo2 = u_178 ∧ xva2 = u_180 ∧ xle2 = u_181)) ∨ ((¬ (z_190 ≤ (8 : Int32))) ∧ (xkd2 = 6 ∧ xsta2 = u_1 ∧ xpo2 = u_178 ∧ xva2 = u_180 ∧ xle2 = u_181)))) (fun (u_178 : Int32) (u_180 : Int32) (u_181 : Int64) => ∃ z_208 : Int32, z_208 = u_178 - u_1 ∧ (((z_208 ≤ (8 : Int32)) ∧ (xkd2 = r_172 ∧ xsta2 = u_1 ∧ xpo2 = u_178 ∧ xva2 = u_180 ∧ xle2 = u_181)) ∨ ((¬ (z_208 ≤ (8 : Int32))) ∧ (xkd2 = 6 ∧ xsta2 = u_1 ∧ xpo2 = u_178 ∧ xva2 = u_180 ∧ xle2 = u_181)))) n_3 u_178 u_180 u_181) → R_x_nextX xen xpo tpf xkd2 xsta2 xpo2 xva2 xle2) → Wk p l e _ s m args below meth c _ A g _ _ _ [(cO9_i1r1i2r1i1r2i4l1i2 h0 xtpd th xfn xfp tp xen nm nd r_172 u_1 u_178 u_180 u_181 xtk xta), (cAB g tp 900 tpf)] [(0, .ref h0)] 82 [] => hL _ u_1 0 0 rfl (iv_w iv_165 (zle_e rfl) (zle_e rfl)) (fun xkd2 xsta2 xpo2 xva2 xle2 h => (KH_0 _ _ _ _ _ ⟨0 + 1, (Or.inr ⟨h_6, ⟨r_167, hq_170, (Or.inl ⟨h_171, ⟨r_172, hq_175, (Or.inl ⟨h_176, h⟩)⟩⟩)⟩⟩)⟩))) ?_
        refine fun nn_182 => Nat.strongRecOn nn_182 (fun nn_182 ih_184 => ?_)
        intro u_178 u_180 u_181 hm_183 hv_179 KH_3
        refine k_aload_n X dX9_next_k2.2.1.2.1 0 rfl ?_
        refine k_get (ci := 9) X inlX9 rfl 10 (nlt_e rfl) dX9_next_k2.2.1.2.2 mw68 0 rfl rfl ?_
        refine k_if_lt 209 X dX9_next_k2.2.2.1.1 (jp_e rfl) (fun h_185 => (iv_ltN (iv_lt h_185) hv_179 iq_0_0_0 (zle_e rfl)).elim) (fun h_185 => ?_)
        have j_186 : 0 ≤ u_178.toInt := iv_nlt h_185
        refine k_aload_n X dX9_next_k2.2.2.1.2 0 rfl ?_
        refine k_get (ci := 9) X inlX9 rfl 10 (nlt_e rfl) dX9_next_k2.2.2.2.1 mw68 0 rfl rfl ?_
        refine k_aload_n X dX9_next_k2.2.2.2.2 0 rfl ?_
        refine k_get (ci := 9) X inlX9 rfl 5 (nlt_e rfl) dX9_next_k3.1.1.1.1 mw60 0 rfl rfl ?_
        refine k_ic_ge 209 X dX9_next_k3.1.1.1.2 (jp_e rfl) (fun h_187 => ?_) (fun h_187 => ?_)
        · skip
          have j_188 : xen.toInt ≤ u_178.toInt := iv_le h_187
          have iv_189 : IV u_178 1 900 := iv_leR (iv_le h_187) iv_166 hv_179 (zle_e rfl)
          refine k_aload_n X dX9_next_k6.2.2.2.1 0 rfl ?_
          refine k_get (ci := 9) X inlX9 rfl 10 (nlt_e rfl) dX9_next_k6.2.2.2.2 mw68 0 rfl rfl ?_
          refine k_aload_n X dX9_next_k7.1.1.1 0 rfl ?_
          refine k_get (ci := 9) X inlX9 rfl 9 (nlt_e rfl) dX9_next_k7.1.1.2.1 mw67 0 rfl rfl ?_
          refine k_isub X dX9_next_k7.1.1.2.2 ?_
          refine k_nm (fun z_190 ez_190 => ?_)
          have i_191 : z_190.toInt = u_178.toInt - u_1.toInt := in_sub ez_190 iv_189 iv_165 (zle_e rfl) (zle_e rfl)
          have iv_192 : IV z_190 (-898) 900 := by have := iv_189; have := iv_165; rw [IV, i_191]; omega
          refine k_aload_n X dX9_next_k7.1.2.1.1 0 rfl ?_
          refine k_get (ci := 9) X inlX9 rfl 8 (nlt_e rfl) dX9_next_k7.1.2.1.2 mw66 0 rfl rfl ?_
          refine k_iconst (v := 1) X dX9_next_k7.1.2.2.1 ic_1 ?_
          refine k_ic_ne 231 X dX9_next_k7.1.2.2.2 (jp_e rfl) (fun h_193 => absurd (iv_eq iv_177 iq_1_1_1) h_193) (fun h_193 => ?_)
          refine k_bipush (v := 8) X dX9_next_k7.2.1.1.1 bi_8 ?_
          refine k_goto 232 X dX9_next_k7.2.1.1.2 (jp_e rfl) ?_
          refine k_ic_le 241 X dX9_next_k7.2.1.2.2 (jp_e rfl) (fun h_194 => ?_) (fun h_194 => ?_)
          · skip
            have j_195 : z_190.toInt ≤ 8 := iv_le h_194
            have iv_196 : IV z_190 (-898) 8 := iv_leL (iv_le h_194) iv_192 iq_8_8_8 (zle_e rfl)
            exact k_vret X hr dX9_next_k7.2.2.2.2 (Nat.le_of_ble_eq_true rfl) (Nat.le_of_ble_eq_true rfl) [0, 1] (vnd_e rfl) rfl rfl (exI5 r_172 u_1 u_178 u_180 u_181 ⟨(iv_w iv_165 (zle_e rfl) (zle_e rfl)), (iv_w iv_189 (zle_e rfl) (zle_e rfl)), (iv_w iv_177 (zle_e rfl) (zle_e rfl)), (KH_3 _ _ _ _ _ ⟨0 + 1, (Or.inl ⟨h_187, ⟨z_190, ez_190, (Or.inl ⟨h_194, ⟨rfl, rfl, rfl, rfl, rfl⟩⟩)⟩⟩)⟩), rfl⟩)
          · skip
            have j_197 : 8 < z_190.toInt := iv_nle h_194
            have iv_198 : IV z_190 9 900 := iv_ltR (iv_nle h_194) iq_8_8_8 iv_192 (zle_e rfl)
            refine k_aload_n X dX9_next_k7.2.2.1.1 0 rfl ?_
            refine k_bipush (v := 6) X dX9_next_k7.2.2.1.2 bi_6 ?_
            refine k_put (ci := 9) [(cO9_i1r1i2r1i1r2i4l1i2 h0 xtpd th xfn xfp tp xen nm nd 6 u_1 u_178 u_180 u_181 xtk xta), (cAB g tp 900 tpf)] X inlX9 rfl tyX9_ok nmX9 8 (nlt_e rfl) rfl dX9_next_k7.2.2.2.1 mw66 0 rfl rfl rfl (Nat.le_of_ble_eq_true rfl) rfl ?_
            exact k_vret X hr dX9_next_k7.2.2.2.2 (Nat.le_of_ble_eq_true rfl) (Nat.le_of_ble_eq_true rfl) [0, 1] (vnd_e rfl) rfl rfl (exI5 6 u_1 u_178 u_180 u_181 ⟨(iv_w iv_165 (zle_e rfl) (zle_e rfl)), (iv_w iv_189 (zle_e rfl) (zle_e rfl)), (iv_w iq_6_6_6 (zle_e rfl) (zle_e rfl)), (KH_3 _ _ _ _ _ ⟨0 + 1, (Or.inl ⟨h_187, ⟨z_190, ez_190, (Or.inr ⟨h_194, ⟨rfl, rfl, rfl, rfl, rfl⟩⟩)⟩⟩)⟩), rfl⟩)
        · skip
          have j_199 : u_178.toInt < xen.toInt := iv_nle h_187
          have iv_200 : IV u_178 0 899 := iv_ltL (iv_nle h_187) hv_179 iv_166 (zle_e rfl)
          refine k_aload_n X dX9_next_k3.1.1.2.1 0 rfl ?_
          refine k_get (ci := 9) X inlX9 rfl 10 (nlt_e rfl) dX9_next_k3.1.1.2.2 mw68 0 rfl rfl ?_
          refine k_aload_n X dX9_next_k3.1.2.1.1 0 rfl ?_
          refine k_get (ci := 9) X inlX9 rfl 4 (nlt_e rfl) dX9_next_k3.1.2.1.2 mw59 0 rfl rfl ?_
          refine k_alen 900 0 X dX9_next_k3.1.2.2.1 1 rfl rfl (by show Int32.ofNat 900 = 900; decide) ?_
          refine k_ic_ge 209 X dX9_next_k3.1.2.2.2 (jp_e rfl) (fun h_201 => (iv_leN (iv_le h_201) iq_900_900_900 iv_200 (by decide)).elim) (fun h_201 => ?_)
          have j_202 : u_178.toInt < 900 := iv_nle h_201
          refine k_aload_n X dX9_next_k3.2.1.1.1 0 rfl ?_
          refine k_aload_n X dX9_next_k3.2.1.1.2 0 rfl ?_
          refine k_get (ci := 9) X inlX9 rfl 10 (nlt_e rfl) dX9_next_k3.2.1.2.1 mw68 0 rfl rfl ?_
          refine k_callVI (n := 1) (As := [.int u_178]) (st := []) X [(cO9_i1r1i2r1i1r2i4l1i2 h0 xtpd th xfn xfp tp xen nm nd r_172 u_1 u_178 u_180 u_181 xtk xta), (cAB g tp 900 tpf)] [] [0, 1] [] (x_kindAtX l g h0 u_178 xtpd th xfn xfp tp xen nm nd r_172 u_1 u_178 u_180 u_181 xtk xta tpf) dX9_next_k3.2.1.2.2 mw242 mw243 mw244 mw15 mw245 rfl 9 rfl rfl 0 _ rfl yk_yX9_kindAt_1 rfl (Nat.le_of_ble_eq_true rfl) (Nat.le_of_ble_eq_true rfl) (Nat.le_of_ble_eq_true rfl) (Nat.le_of_ble_eq_true rfl) (Nat.le_of_ble_eq_true rfl) rfl rfl (vnd_e rfl) rfl (vnd_e rfl) (dsj_e rfl) ?_
          rintro r_203 w ⟨iv_204, hq_205, hq_206, rfl⟩
          refine k_ws [(cO9_i1r1i2r1i1r2i4l1i2 h0 xtpd th xfn xfp tp xen nm nd r_172 u_1 u_178 u_180 u_181 xtk xta), (cAB g tp 900 tpf)] rfl ?_
          refine k_aload_n X dX9_next_k3.2.2.1.1 0 rfl ?_
          refine k_get (ci := 9) X inlX9 rfl 8 (nlt_e rfl) dX9_next_k3.2.2.1.2 mw66 0 rfl rfl ?_
          refine k_ic_ne 209 X dX9_next_k3.2.2.2.1 (jp_e rfl) (fun h_207 => ?_) (fun h_207 => ?_)
          · skip
            refine k_aload_n X dX9_next_k6.2.2.2.1 0 rfl ?_
            refine k_get (ci := 9) X inlX9 rfl 10 (nlt_e rfl) dX9_next_k6.2.2.2.2 mw68 0 rfl rfl ?_
            refine k_aload_n X dX9_next_k7.1.1.1 0 rfl ?_
            refine k_get (ci := 9) X inlX9 rfl 9 (nlt_e rfl) dX9_next_k7.1.1.2.1 mw67 0 rfl rfl ?_
            refine k_isub X dX9_next_k7.1.1.2.2 ?_
            refine k_nm (fun z_208 ez_208 => ?_)
            have i_209 : z_208.toInt = u_178.toInt - u_1.toInt := in_sub ez_208 iv_200 iv_165 (zle_e rfl) (zle_e rfl)
            have iv_210 : IV z_208 (-899) 899 := by have := iv_200; have := iv_165; rw [IV, i_209]; omega
            refine k_aload_n X dX9_next_k7.1.2.1.1 0 rfl ?_
            refine k_get (ci := 9) X inlX9 rfl 8 (nlt_e rfl) dX9_next_k7.1.2.1.2 mw66 0 rfl rfl ?_
            refine k_iconst (v := 1) X dX9_next_k7.1.2.2.1 ic_1 ?_
            refine k_ic_ne 231 X dX9_next_k7.1.2.2.2 (jp_e rfl) (fun h_211 => absurd (iv_eq iv_177 iq_1_1_1) h_211) (fun h_211 => ?_)
            refine k_bipush (v := 8) X dX9_next_k7.2.1.1.1 bi_8 ?_
            refine k_goto 232 X dX9_next_k7.2.1.1.2 (jp_e rfl) ?_
            refine k_ic_le 241 X dX9_next_k7.2.1.2.2 (jp_e rfl) (fun h_212 => ?_) (fun h_212 => ?_)
            · skip
              have j_213 : z_208.toInt ≤ 8 := iv_le h_212
              have iv_214 : IV z_208 (-899) 8 := iv_leL (iv_le h_212) iv_210 iq_8_8_8 (zle_e rfl)
              exact k_vret X hr dX9_next_k7.2.2.2.2 (Nat.le_of_ble_eq_true rfl) (Nat.le_of_ble_eq_true rfl) [0, 1] (vnd_e rfl) rfl rfl (exI5 r_172 u_1 u_178 u_180 u_181 ⟨(iv_w iv_165 (zle_e rfl) (zle_e rfl)), (iv_w iv_200 (zle_e rfl) (zle_e rfl)), (iv_w iv_177 (zle_e rfl) (zle_e rfl)), (KH_3 _ _ _ _ _ ⟨0 + 1, (Or.inr ⟨h_187, ⟨r_203, hq_206, (Or.inl ⟨h_207, ⟨z_208, ez_208, (Or.inl ⟨h_212, ⟨rfl, rfl, rfl, rfl, rfl⟩⟩)⟩⟩)⟩⟩)⟩), rfl⟩)
            · skip
              have j_215 : 8 < z_208.toInt := iv_nle h_212
              have iv_216 : IV z_208 9 899 := iv_ltR (iv_nle h_212) iq_8_8_8 iv_210 (zle_e rfl)
              refine k_aload_n X dX9_next_k7.2.2.1.1 0 rfl ?_
              refine k_bipush (v := 6) X dX9_next_k7.2.2.1.2 bi_6 ?_
              refine k_put (ci := 9) [(cO9_i1r1i2r1i1r2i4l1i2 h0 xtpd th xfn xfp tp xen nm nd 6 u_1 u_178 u_180 u_181 xtk xta), (cAB g tp 900 tpf)] X inlX9 rfl tyX9_ok nmX9 8 (nlt_e rfl) rfl dX9_next_k7.2.2.2.1 mw66 0 rfl rfl rfl (Nat.le_of_ble_eq_true rfl) rfl ?_
              exact k_vret X hr dX9_next_k7.2.2.2.2 (Nat.le_of_ble_eq_true rfl) (Nat.le_of_ble_eq_true rfl) [0, 1] (vnd_e rfl) rfl rfl (exI5 6 u_1 u_178 u_180 u_181 ⟨(iv_w iv_165 (zle_e rfl) (zle_e rfl)), (iv_w iv_200 (zle_e rfl) (zle_e rfl)), (iv_w iq_6_6_6 (zle_e rfl) (zle_e rfl)), (KH_3 _ _ _ _ _ ⟨0 + 1, (Or.inr ⟨h_187, ⟨r_203, hq_206, (Or.inl ⟨h_207, ⟨z_208, ez_208, (Or.inr ⟨h_212, ⟨rfl, rfl, rfl, rfl, rfl⟩⟩)⟩⟩)⟩⟩)⟩), rfl⟩)
          · skip
            have iv_217 : IV r_203 1 1 := iv_meet iv_204 (iv_e h_207 iv_177) (zle_o rfl) (zle_o rfl)
            refine k_aload_n X dX9_next_k3.2.2.2.2 0 rfl ?_
            refine k_aload_n X dX9_next_k4.1.1.1.1 0 rfl ?_
            refine k_get (ci := 9) X inlX9 rfl 12 (nlt_e rfl) dX9_next_k4.1.1.1.2 mw70 0 rfl rfl ?_
            refine k_ldc2 (v := 27) X dX9_next_k4.1.1.2.1 mw241 ?_
            refine k_lmul X dX9_next_k4.1.1.2.2 ?_
            refine k_nmL (fun y_218 ey_218 => ?_)
            refine k_aload_n X dX9_next_k4.1.2.1.1 0 rfl ?_
            refine k_get (ci := 9) X inlX9 rfl 4 (nlt_e rfl) dX9_next_k4.1.2.1.2 mw59 0 rfl rfl ?_
            refine k_aload_n X dX9_next_k4.1.2.2.1 0 rfl ?_
            refine k_get (ci := 9) X inlX9 rfl 10 (nlt_e rfl) dX9_next_k4.1.2.2.2 mw68 0 rfl rfl ?_
            refine k_bald X dX9_next_k4.2.1.1.1 1 rfl (iv_in iv_200 (zle_e rfl) (zle_l rfl)) ?_
            refine k_nm (fun z_219 ez_219 => ?_)
            refine k_bipush (v := 97) X dX9_next_k4.2.1.1.2 bi_97 ?_
            refine k_isub X dX9_next_k4.2.1.2.1 ?_
            refine k_nm (fun z_220 ez_220 => ?_)
            refine k_iconst (v := 1) X dX9_next_k4.2.1.2.2 ic_1 ?_
            refine k_iadd X dX9_next_k4.2.2.1.1 ?_
            refine k_nm (fun z_222 ez_222 => ?_)
            refine k_i2l X dX9_next_k4.2.2.1.2 ?_
            refine k_nmL (fun y_224 ey_224 => ?_)
            refine k_ladd X dX9_next_k4.2.2.2.1 ?_
            refine k_nmL (fun y_225 ey_225 => ?_)
            refine k_put (ci := 9) [(cO9_i1r1i2r1i1r2i4l1i2 h0 xtpd th xfn xfp tp xen nm nd r_172 u_1 u_178 u_180 y_225 xtk xta), (cAB g tp 900 tpf)] X inlX9 rfl tyX9_ok nmX9 12 (nlt_e rfl) rfl dX9_next_k4.2.2.2.2 mw70 0 rfl rfl rfl (Nat.le_of_ble_eq_true rfl) rfl ?_
            refine k_aload_n X dX9_next_k5.1.1.1.1 0 rfl ?_
            refine k_aload_n X dX9_next_k5.1.1.1.2 0 rfl ?_
            refine k_get (ci := 9) X inlX9 rfl 11 (nlt_e rfl) dX9_next_k5.1.1.2.1 mw69 0 rfl rfl ?_
            refine k_bipush (v := 10) X dX9_next_k5.1.1.2.2 bi_10 ?_
            refine k_imul X dX9_next_k5.1.2.1.1 ?_
            refine k_nm (fun z_226 ez_226 => ?_)
            refine k_aload_n X dX9_next_k5.1.2.1.2 0 rfl ?_
            refine k_get (ci := 9) X inlX9 rfl 4 (nlt_e rfl) dX9_next_k5.1.2.2.1 mw59 0 rfl rfl ?_
            refine k_aload_n X dX9_next_k5.1.2.2.2 0 rfl ?_
            refine k_get (ci := 9) X inlX9 rfl 10 (nlt_e rfl) dX9_next_k5.2.1.1.1 mw68 0 rfl rfl ?_
            refine k_bald X dX9_next_k5.2.1.1.2 1 rfl (iv_in iv_200 (zle_e rfl) (zle_l rfl)) ?_
            refine k_nm (fun z_228 ez_228 => ?_)
            refine k_bipush (v := 48) X dX9_next_k5.2.1.2.1 bi_48 ?_
            refine k_isub X dX9_next_k5.2.1.2.2 ?_
            refine k_nm (fun z_229 ez_229 => ?_)
            refine k_iadd X dX9_next_k5.2.2.1.1 ?_
            refine k_nm (fun z_231 ez_231 => ?_)
            refine k_put (ci := 9) [(cO9_i1r1i2r1i1r2i4l1i2 h0 xtpd th xfn xfp tp xen nm nd r_172 u_1 u_178 z_231 y_225 xtk xta), (cAB g tp 900 tpf)] X inlX9 rfl tyX9_ok nmX9 11 (nlt_e rfl) rfl dX9_next_k5.2.2.1.2 mw69 0 rfl rfl rfl (Nat.le_of_ble_eq_true rfl) rfl ?_
            refine k_aload_n X dX9_next_k5.2.2.2.1 0 rfl ?_
            refine k_dup X dX9_next_k5.2.2.2.2 rfl ?_
            refine k_get (ci := 9) X inlX9 rfl 10 (nlt_e rfl) dX9_next_k6.1.1.1.1 mw68 0 rfl rfl ?_
            refine k_iconst (v := 1) X dX9_next_k6.1.1.1.2 ic_1 ?_
            refine k_iadd X dX9_next_k6.1.1.2.1 ?_
            refine k_nm (fun z_233 ez_233 => ?_)
            have i_234 : z_233.toInt = u_178.toInt + 1 := in_add ez_233 iv_200 iq_1_1_1 (zle_e rfl) (zle_e rfl)
            have iv_235 : IV z_233 1 900 := iz1 i_234 iv_200 (zle_e rfl) (zle_e rfl)
            refine k_put (ci := 9) [(cO9_i1r1i2r1i1r2i4l1i2 h0 xtpd th xfn xfp tp xen nm nd r_172 u_1 z_233 z_231 y_225 xtk xta), (cAB g tp 900 tpf)] X inlX9 rfl tyX9_ok nmX9 10 (nlt_e rfl) rfl dX9_next_k6.1.1.2.2 mw68 0 rfl rfl rfl (Nat.le_of_ble_eq_true rfl) rfl ?_
            refine k_goto 82 X dX9_next_k6.1.2.1.1 (jp_e rfl) ?_
            exact ih_184 _ (by omega) z_233 z_231 y_225 rfl (iv_w iv_235 (zle_e rfl) (zle_e rfl)) (fun xkd2 xsta2 xpo2 xva2 xle2 h => h.elim (fun n_3 q => (KH_3 _ _ _ _ _ ⟨n_3 + 1, (Or.inr ⟨h_187, ⟨r_203, hq_206, (Or.inr ⟨h_207, ⟨y_218, ey_218, ⟨z_219, ez_219, ⟨z_220, ez_220, ⟨z_222, ez_222, ⟨y_224, ey_224, ⟨y_225, ey_225, ⟨z_226, ez_226, ⟨z_228, ez_228, ⟨z_229, ez_229, ⟨z_231, ez_231, ⟨z_233, ez_233, q⟩⟩⟩⟩⟩⟩⟩⟩⟩⟩⟩⟩)⟩⟩)⟩)))
      · skip
        refine k_aload_n X dX9_next_k2.1.2.2.1 0 rfl ?_
        refine k_get (ci := 9) X inlX9 rfl 8 (nlt_e rfl) dX9_next_k2.1.2.2.2 mw66 0 rfl rfl ?_
        refine k_iconst (v := 2) X dX9_next_k2.2.1.1.1 ic_2 ?_
        refine k_ic_ne 192 X dX9_next_k2.2.1.1.2 (jp_e rfl) (fun h_236 => ?_) (fun h_236 => ?_)
        · skip
          refine k_aload_n X dX9_next_k6.1.2.1.2 0 rfl ?_
          refine k_get (ci := 9) X inlX9 rfl 8 (nlt_e rfl) dX9_next_k6.1.2.2.1 mw66 0 rfl rfl ?_
          refine k_if_eq 209 X dX9_next_k6.1.2.2.2 (jp_e rfl) (fun h_237 => ?_) (fun h_237 => ?_)
          · skip
            have iv_238 : IV r_172 0 0 := iv_meet iv_173 (iv_e h_237 iq_0_0_0) (zle_o rfl) (zle_o rfl)
            refine k_aload_n X dX9_next_k6.2.2.2.1 0 rfl ?_
            refine k_get (ci := 9) X inlX9 rfl 10 (nlt_e rfl) dX9_next_k6.2.2.2.2 mw68 0 rfl rfl ?_
            refine k_aload_n X dX9_next_k7.1.1.1 0 rfl ?_
            refine k_get (ci := 9) X inlX9 rfl 9 (nlt_e rfl) dX9_next_k7.1.1.2.1 mw67 0 rfl rfl ?_
            refine k_isub X dX9_next_k7.1.1.2.2 ?_
            refine k_nm (fun z_239 ez_239 => ?_)
            have i_240 : z_239.toInt = u_1.toInt - u_1.toInt := in_sub ez_239 iv_165 iv_165 (zle_e rfl) (zle_e rfl)
            have iv_241 : IV z_239 (-899) 899 := by have := iv_165; have := iv_165; rw [IV, i_240]; omega
            refine k_aload_n X dX9_next_k7.1.2.1.1 0 rfl ?_
            refine k_get (ci := 9) X inlX9 rfl 8 (nlt_e rfl) dX9_next_k7.1.2.1.2 mw66 0 rfl rfl ?_
            refine k_iconst (v := 1) X dX9_next_k7.1.2.2.1 ic_1 ?_
            refine k_ic_ne 231 X dX9_next_k7.1.2.2.2 (jp_e rfl) (fun h_242 => ?_) (fun h_242 => (iv_eqN h_242 iv_238 iq_1_1_1 (by decide)).elim)
            refine k_iconst (v := 4) X dX9_next_k7.2.1.2.1 ic_4 ?_
            refine k_ic_le 241 X dX9_next_k7.2.1.2.2 (jp_e rfl) (fun h_243 => ?_) (fun h_243 => ?_)
            · skip
              have j_244 : z_239.toInt ≤ 4 := iv_le h_243
              have iv_245 : IV z_239 (-899) 4 := iv_leL (iv_le h_243) iv_241 iq_4_4_4 (zle_e rfl)
              exact k_vret X hr dX9_next_k7.2.2.2.2 (Nat.le_of_ble_eq_true rfl) (Nat.le_of_ble_eq_true rfl) [0, 1] (vnd_e rfl) rfl rfl (exI5 r_172 u_1 u_1 0 0 ⟨(iv_w iv_165 (zle_e rfl) (zle_e rfl)), (iv_w iv_165 (zle_e rfl) (zle_e rfl)), (iv_w iv_238 (zle_e rfl) (zle_e rfl)), (KH_0 _ _ _ _ _ ⟨0 + 1, (Or.inr ⟨h_6, ⟨r_167, hq_170, (Or.inl ⟨h_171, ⟨r_172, hq_175, (Or.inr ⟨h_176, (Or.inl ⟨h_236, (Or.inl ⟨h_237, ⟨z_239, ez_239, (Or.inl ⟨h_243, ⟨rfl, rfl, rfl, rfl, rfl⟩⟩)⟩⟩)⟩)⟩)⟩⟩)⟩⟩)⟩), rfl⟩)
            · skip
              have j_246 : 4 < z_239.toInt := iv_nle h_243
              have iv_247 : IV z_239 5 899 := iv_ltR (iv_nle h_243) iq_4_4_4 iv_241 (zle_e rfl)
              refine k_aload_n X dX9_next_k7.2.2.1.1 0 rfl ?_
              refine k_bipush (v := 6) X dX9_next_k7.2.2.1.2 bi_6 ?_
              refine k_put (ci := 9) [(cO9_i1r1i2r1i1r2i4l1i2 h0 xtpd th xfn xfp tp xen nm nd 6 u_1 u_1 0 0 xtk xta), (cAB g tp 900 tpf)] X inlX9 rfl tyX9_ok nmX9 8 (nlt_e rfl) rfl dX9_next_k7.2.2.2.1 mw66 0 rfl rfl rfl (Nat.le_of_ble_eq_true rfl) rfl ?_
              exact k_vret X hr dX9_next_k7.2.2.2.2 (Nat.le_of_ble_eq_true rfl) (Nat.le_of_ble_eq_true rfl) [0, 1] (vnd_e rfl) rfl rfl (exI5 6 u_1 u_1 0 0 ⟨(iv_w iv_165 (zle_e rfl) (zle_e rfl)), (iv_w iv_165 (zle_e rfl) (zle_e rfl)), (iv_w iq_6_6_6 (zle_e rfl) (zle_e rfl)), (KH_0 _ _ _ _ _ ⟨0 + 1, (Or.inr ⟨h_6, ⟨r_167, hq_170, (Or.inl ⟨h_171, ⟨r_172, hq_175, (Or.inr ⟨h_176, (Or.inl ⟨h_236, (Or.inl ⟨h_237, ⟨z_239, ez_239, (Or.inr ⟨h_243, ⟨rfl, rfl, rfl, rfl, rfl⟩⟩)⟩⟩)⟩)⟩)⟩⟩)⟩⟩)⟩), rfl⟩)
          · skip
            have iv_248 : IV r_172 1 6 := iv_neL h_237 iv_173 iq_0_0_0 (zle_e rfl)
            have iv_249 : IV u_1 0 899 := ⟨iv_165.1, by rcases hq_174 with q | q; exact absurd q h_237; have := hv_xen.2; omega⟩
            refine k_aload_n X dX9_next_k6.2.1.1.1 0 rfl ?_
            refine k_dup X dX9_next_k6.2.1.1.2 rfl ?_
            refine k_get (ci := 9) X inlX9 rfl 10 (nlt_e rfl) dX9_next_k6.2.1.2.1 mw68 0 rfl rfl ?_
            refine k_iconst (v := 1) X dX9_next_k6.2.1.2.2 ic_1 ?_
            refine k_iadd X dX9_next_k6.2.2.1.1 ?_
            refine k_nm (fun z_250 ez_250 => ?_)
            have i_251 : z_250.toInt = u_1.toInt + 1 := in_add ez_250 iv_249 iq_1_1_1 (zle_e rfl) (zle_e rfl)
            have iv_252 : IV z_250 1 900 := iz1 i_251 iv_249 (zle_e rfl) (zle_e rfl)
            refine k_put (ci := 9) [(cO9_i1r1i2r1i1r2i4l1i2 h0 xtpd th xfn xfp tp xen nm nd r_172 u_1 z_250 0 0 xtk xta), (cAB g tp 900 tpf)] X inlX9 rfl tyX9_ok nmX9 10 (nlt_e rfl) rfl dX9_next_k6.2.2.1.2 mw68 0 rfl rfl rfl (Nat.le_of_ble_eq_true rfl) rfl ?_
            refine k_aload_n X dX9_next_k6.2.2.2.1 0 rfl ?_
            refine k_get (ci := 9) X inlX9 rfl 10 (nlt_e rfl) dX9_next_k6.2.2.2.2 mw68 0 rfl rfl ?_
            refine k_aload_n X dX9_next_k7.1.1.1 0 rfl ?_
            refine k_get (ci := 9) X inlX9 rfl 9 (nlt_e rfl) dX9_next_k7.1.1.2.1 mw67 0 rfl rfl ?_
            refine k_isub X dX9_next_k7.1.1.2.2 ?_
            refine k_nm (fun z_253 ez_253 => ?_)
            have i_254 : z_253.toInt = z_250.toInt - u_1.toInt := in_sub ez_253 iv_252 iv_249 (zle_e rfl) (zle_e rfl)
            have iv_255 : IV z_253 (-898) 900 := by have := iv_252; have := iv_249; rw [IV, i_254]; omega
            refine k_aload_n X dX9_next_k7.1.2.1.1 0 rfl ?_
            refine k_get (ci := 9) X inlX9 rfl 8 (nlt_e rfl) dX9_next_k7.1.2.1.2 mw66 0 rfl rfl ?_
            refine k_iconst (v := 1) X dX9_next_k7.1.2.2.1 ic_1 ?_
            refine k_ic_ne 231 X dX9_next_k7.1.2.2.2 (jp_e rfl) (fun h_256 => ?_) (fun h_256 => ?_)
            · skip
              have iv_257 : IV r_172 2 6 := iv_neL h_256 iv_248 iq_1_1_1 (zle_e rfl)
              refine k_iconst (v := 4) X dX9_next_k7.2.1.2.1 ic_4 ?_
              refine k_ic_le 241 X dX9_next_k7.2.1.2.2 (jp_e rfl) (fun h_258 => ?_) (fun h_258 => ?_)
              · skip
                have j_259 : z_253.toInt ≤ 4 := iv_le h_258
                have iv_260 : IV z_253 (-898) 4 := iv_leL (iv_le h_258) iv_255 iq_4_4_4 (zle_e rfl)
                exact k_vret X hr dX9_next_k7.2.2.2.2 (Nat.le_of_ble_eq_true rfl) (Nat.le_of_ble_eq_true rfl) [0, 1] (vnd_e rfl) rfl rfl (exI5 r_172 u_1 z_250 0 0 ⟨(iv_w iv_249 (zle_e rfl) (zle_e rfl)), (iv_w iv_252 (zle_e rfl) (zle_e rfl)), (iv_w iv_257 (zle_e rfl) (zle_e rfl)), (KH_0 _ _ _ _ _ ⟨0 + 1, (Or.inr ⟨h_6, ⟨r_167, hq_170, (Or.inl ⟨h_171, ⟨r_172, hq_175, (Or.inr ⟨h_176, (Or.inl ⟨h_236, (Or.inr ⟨h_237, ⟨z_250, ez_250, ⟨z_253, ez_253, (Or.inl ⟨h_256, (Or.inl ⟨h_258, ⟨rfl, rfl, rfl, rfl, rfl⟩⟩)⟩)⟩⟩⟩)⟩)⟩)⟩⟩)⟩⟩)⟩), rfl⟩)
              · skip
                have j_261 : 4 < z_253.toInt := iv_nle h_258
                have iv_262 : IV z_253 5 900 := iv_ltR (iv_nle h_258) iq_4_4_4 iv_255 (zle_e rfl)
                refine k_aload_n X dX9_next_k7.2.2.1.1 0 rfl ?_
                refine k_bipush (v := 6) X dX9_next_k7.2.2.1.2 bi_6 ?_
                refine k_put (ci := 9) [(cO9_i1r1i2r1i1r2i4l1i2 h0 xtpd th xfn xfp tp xen nm nd 6 u_1 z_250 0 0 xtk xta), (cAB g tp 900 tpf)] X inlX9 rfl tyX9_ok nmX9 8 (nlt_e rfl) rfl dX9_next_k7.2.2.2.1 mw66 0 rfl rfl rfl (Nat.le_of_ble_eq_true rfl) rfl ?_
                exact k_vret X hr dX9_next_k7.2.2.2.2 (Nat.le_of_ble_eq_true rfl) (Nat.le_of_ble_eq_true rfl) [0, 1] (vnd_e rfl) rfl rfl (exI5 6 u_1 z_250 0 0 ⟨(iv_w iv_249 (zle_e rfl) (zle_e rfl)), (iv_w iv_252 (zle_e rfl) (zle_e rfl)), (iv_w iq_6_6_6 (zle_e rfl) (zle_e rfl)), (KH_0 _ _ _ _ _ ⟨0 + 1, (Or.inr ⟨h_6, ⟨r_167, hq_170, (Or.inl ⟨h_171, ⟨r_172, hq_175, (Or.inr ⟨h_176, (Or.inl ⟨h_236, (Or.inr ⟨h_237, ⟨z_250, ez_250, ⟨z_253, ez_253, (Or.inl ⟨h_256, (Or.inr ⟨h_258, ⟨rfl, rfl, rfl, rfl, rfl⟩⟩)⟩)⟩⟩⟩)⟩)⟩)⟩⟩)⟩⟩)⟩), rfl⟩)
            · skip
              have iv_263 : IV r_172 1 1 := iv_meet iv_248 (iv_e h_256 iq_1_1_1) (zle_o rfl) (zle_o rfl)
              refine k_bipush (v := 8) X dX9_next_k7.2.1.1.1 bi_8 ?_
              refine k_goto 232 X dX9_next_k7.2.1.1.2 (jp_e rfl) ?_
              refine k_ic_le 241 X dX9_next_k7.2.1.2.2 (jp_e rfl) (fun h_264 => ?_) (fun h_264 => ?_)
              · skip
                have j_265 : z_253.toInt ≤ 8 := iv_le h_264
                have iv_266 : IV z_253 (-898) 8 := iv_leL (iv_le h_264) iv_255 iq_8_8_8 (zle_e rfl)
                exact k_vret X hr dX9_next_k7.2.2.2.2 (Nat.le_of_ble_eq_true rfl) (Nat.le_of_ble_eq_true rfl) [0, 1] (vnd_e rfl) rfl rfl (exI5 r_172 u_1 z_250 0 0 ⟨(iv_w iv_249 (zle_e rfl) (zle_e rfl)), (iv_w iv_252 (zle_e rfl) (zle_e rfl)), (iv_w iv_263 (zle_e rfl) (zle_e rfl)), (KH_0 _ _ _ _ _ ⟨0 + 1, (Or.inr ⟨h_6, ⟨r_167, hq_170, (Or.inl ⟨h_171, ⟨r_172, hq_175, (Or.inr ⟨h_176, (Or.inl ⟨h_236, (Or.inr ⟨h_237, ⟨z_250, ez_250, ⟨z_253, ez_253, (Or.inr ⟨h_256, (Or.inl ⟨h_264, ⟨rfl, rfl, rfl, rfl, rfl⟩⟩)⟩)⟩⟩⟩)⟩)⟩)⟩⟩)⟩⟩)⟩), rfl⟩)
              · skip
                have j_267 : 8 < z_253.toInt := iv_nle h_264
                have iv_268 : IV z_253 9 900 := iv_ltR (iv_nle h_264) iq_8_8_8 iv_255 (zle_e rfl)
                refine k_aload_n X dX9_next_k7.2.2.1.1 0 rfl ?_
                refine k_bipush (v := 6) X dX9_next_k7.2.2.1.2 bi_6 ?_
                refine k_put (ci := 9) [(cO9_i1r1i2r1i1r2i4l1i2 h0 xtpd th xfn xfp tp xen nm nd 6 u_1 z_250 0 0 xtk xta), (cAB g tp 900 tpf)] X inlX9 rfl tyX9_ok nmX9 8 (nlt_e rfl) rfl dX9_next_k7.2.2.2.1 mw66 0 rfl rfl rfl (Nat.le_of_ble_eq_true rfl) rfl ?_
                exact k_vret X hr dX9_next_k7.2.2.2.2 (Nat.le_of_ble_eq_true rfl) (Nat.le_of_ble_eq_true rfl) [0, 1] (vnd_e rfl) rfl rfl (exI5 6 u_1 z_250 0 0 ⟨(iv_w iv_249 (zle_e rfl) (zle_e rfl)), (iv_w iv_252 (zle_e rfl) (zle_e rfl)), (iv_w iq_6_6_6 (zle_e rfl) (zle_e rfl)), (KH_0 _ _ _ _ _ ⟨0 + 1, (Or.inr ⟨h_6, ⟨r_167, hq_170, (Or.inl ⟨h_171, ⟨r_172, hq_175, (Or.inr ⟨h_176, (Or.inl ⟨h_236, (Or.inr ⟨h_237, ⟨z_250, ez_250, ⟨z_253, ez_253, (Or.inr ⟨h_256, (Or.inr ⟨h_264, ⟨rfl, rfl, rfl, rfl, rfl⟩⟩)⟩)⟩⟩⟩)⟩)⟩)⟩⟩)⟩⟩)⟩), rfl⟩)
        · skip
          have iv_269 : IV r_172 2 2 := iv_meet iv_173 (iv_e h_236 iq_2_2_2) (zle_o rfl) (zle_o rfl)
          refine (fun hL : ∀ (nn_274 : Nat) (u_270 : Int32) (u_272 : Int32) (u_273 : Int64), (xen.toInt - u_270.toInt).toNat = nn_274 → (IV u_270 0 900) → (∀ (xkd2 : Int32) (xsta2 : Int32) (xpo2 : Int32) (xva2 : Int32) (xle2 : Int64), (∃ n_4 : Nat, R_x_nextX_L4 xen tpf r_172 (fun (u_270 : Int32) (u_272 : Int32) (u_273 : Int64) => ∃ z_282 : Int32, z_282 = u_270 - u_1 ∧ (((z_282 ≤ (4 : Int32)) ∧ (xkd2 = r_172 ∧ xsta2 = u_1 ∧ xpo2 = u_270 ∧ xva2 = u_272 ∧ xle2 = u_273)) ∨ ((¬ (z_282 ≤ (4 : Int32))) ∧ (xkd2 = 6 ∧ xsta2 = u_1 ∧ xpo2 = u_270 ∧ xva2 = u_272 ∧ xle2 = u_273)))) (fun (u_270 : Int32) (u_272 : Int32) (u_273 : Int64) => ∃ z_300 : Int32, z_300 = u_270 - u_1 ∧ (((z_300 ≤ (4 : Int32)) ∧ (xkd2 = r_172 ∧ xsta2 = u_1 ∧ xpo2 = u_270 ∧ xva2 = u_272 ∧ xle2 = u_273)) ∨ ((¬ (z_300 ≤ (4 : Int32))) ∧ (xkd2 = 6 ∧ xsta2 = u_1 ∧ xpo2 = u_270 ∧ xva2 = u_272 ∧ xle2 = u_273)))) n_4 u_270 u_272 u_273) → R_x_nextX xen xpo tpf xkd2 xsta2 xpo2 xva2 xle2) → Wk p l e _ s m args below meth c _ A g _ _ _ [(cO9_i1r1i2r1i1r2i4l1i2 h0 xtpd th xfn xfp tp xen nm nd r_172 u_1 u_270 u_272 u_273 xtk xta), (cAB g tp 900 tpf)] [(0, .ref h0)] 82 [] => hL _ u_1 0 0 rfl (iv_w iv_165 (zle_e rfl) (zle_e rfl)) (fun xkd2 xsta2 xpo2 xva2 xle2 h => (KH_0 _ _ _ _ _ ⟨0 + 1, (Or.inr ⟨h_6, ⟨r_167, hq_170, (Or.inl ⟨h_171, ⟨r_172, hq_175, (Or.inr ⟨h_176, (Or.inr ⟨h_236, h⟩)⟩)⟩⟩)⟩⟩)⟩))) ?_
          refine fun nn_274 => Nat.strongRecOn nn_274 (fun nn_274 ih_276 => ?_)
          intro u_270 u_272 u_273 hm_275 hv_271 KH_4
          refine k_aload_n X dX9_next_k2.2.1.2.1 0 rfl ?_
          refine k_get (ci := 9) X inlX9 rfl 10 (nlt_e rfl) dX9_next_k2.2.1.2.2 mw68 0 rfl rfl ?_
          refine k_if_lt 209 X dX9_next_k2.2.2.1.1 (jp_e rfl) (fun h_277 => (iv_ltN (iv_lt h_277) hv_271 iq_0_0_0 (zle_e rfl)).elim) (fun h_277 => ?_)
          have j_278 : 0 ≤ u_270.toInt := iv_nlt h_277
          refine k_aload_n X dX9_next_k2.2.2.1.2 0 rfl ?_
          refine k_get (ci := 9) X inlX9 rfl 10 (nlt_e rfl) dX9_next_k2.2.2.2.1 mw68 0 rfl rfl ?_
          refine k_aload_n X dX9_next_k2.2.2.2.2 0 rfl ?_
          refine k_get (ci := 9) X inlX9 rfl 5 (nlt_e rfl) dX9_next_k3.1.1.1.1 mw60 0 rfl rfl ?_
          refine k_ic_ge 209 X dX9_next_k3.1.1.1.2 (jp_e rfl) (fun h_279 => ?_) (fun h_279 => ?_)
          · skip
            have j_280 : xen.toInt ≤ u_270.toInt := iv_le h_279
            have iv_281 : IV u_270 1 900 := iv_leR (iv_le h_279) iv_166 hv_271 (zle_e rfl)
            refine k_aload_n X dX9_next_k6.2.2.2.1 0 rfl ?_
            refine k_get (ci := 9) X inlX9 rfl 10 (nlt_e rfl) dX9_next_k6.2.2.2.2 mw68 0 rfl rfl ?_
            refine k_aload_n X dX9_next_k7.1.1.1 0 rfl ?_
            refine k_get (ci := 9) X inlX9 rfl 9 (nlt_e rfl) dX9_next_k7.1.1.2.1 mw67 0 rfl rfl ?_
            refine k_isub X dX9_next_k7.1.1.2.2 ?_
            refine k_nm (fun z_282 ez_282 => ?_)
            have i_283 : z_282.toInt = u_270.toInt - u_1.toInt := in_sub ez_282 iv_281 iv_165 (zle_e rfl) (zle_e rfl)
            have iv_284 : IV z_282 (-898) 900 := by have := iv_281; have := iv_165; rw [IV, i_283]; omega
            refine k_aload_n X dX9_next_k7.1.2.1.1 0 rfl ?_
            refine k_get (ci := 9) X inlX9 rfl 8 (nlt_e rfl) dX9_next_k7.1.2.1.2 mw66 0 rfl rfl ?_
            refine k_iconst (v := 1) X dX9_next_k7.1.2.2.1 ic_1 ?_
            refine k_ic_ne 231 X dX9_next_k7.1.2.2.2 (jp_e rfl) (fun h_285 => ?_) (fun h_285 => (iv_eqN h_285 iv_269 iq_1_1_1 (by decide)).elim)
            refine k_iconst (v := 4) X dX9_next_k7.2.1.2.1 ic_4 ?_
            refine k_ic_le 241 X dX9_next_k7.2.1.2.2 (jp_e rfl) (fun h_286 => ?_) (fun h_286 => ?_)
            · skip
              have j_287 : z_282.toInt ≤ 4 := iv_le h_286
              have iv_288 : IV z_282 (-898) 4 := iv_leL (iv_le h_286) iv_284 iq_4_4_4 (zle_e rfl)
              exact k_vret X hr dX9_next_k7.2.2.2.2 (Nat.le_of_ble_eq_true rfl) (Nat.le_of_ble_eq_true rfl) [0, 1] (vnd_e rfl) rfl rfl (exI5 r_172 u_1 u_270 u_272 u_273 ⟨(iv_w iv_165 (zle_e rfl) (zle_e rfl)), (iv_w iv_281 (zle_e rfl) (zle_e rfl)), (iv_w iv_269 (zle_e rfl) (zle_e rfl)), (KH_4 _ _ _ _ _ ⟨0 + 1, (Or.inl ⟨h_279, ⟨z_282, ez_282, (Or.inl ⟨h_286, ⟨rfl, rfl, rfl, rfl, rfl⟩⟩)⟩⟩)⟩), rfl⟩)
            · skip
              have j_289 : 4 < z_282.toInt := iv_nle h_286
              have iv_290 : IV z_282 5 900 := iv_ltR (iv_nle h_286) iq_4_4_4 iv_284 (zle_e rfl)
              refine k_aload_n X dX9_next_k7.2.2.1.1 0 rfl ?_
              refine k_bipush (v := 6) X dX9_next_k7.2.2.1.2 bi_6 ?_
              refine k_put (ci := 9) [(cO9_i1r1i2r1i1r2i4l1i2 h0 xtpd th xfn xfp tp xen nm nd 6 u_1 u_270 u_272 u_273 xtk xta), (cAB g tp 900 tpf)] X inlX9 rfl tyX9_ok nmX9 8 (nlt_e rfl) rfl dX9_next_k7.2.2.2.1 mw66 0 rfl rfl rfl (Nat.le_of_ble_eq_true rfl) rfl ?_
              exact k_vret X hr dX9_next_k7.2.2.2.2 (Nat.le_of_ble_eq_true rfl) (Nat.le_of_ble_eq_true rfl) [0, 1] (vnd_e rfl) rfl rfl (exI5 6 u_1 u_270 u_272 u_273 ⟨(iv_w iv_165 (zle_e rfl) (zle_e rfl)), (iv_w iv_281 (zle_e rfl) (zle_e rfl)), (iv_w iq_6_6_6 (zle_e rfl) (zle_e rfl)), (KH_4 _ _ _ _ _ ⟨0 + 1, (Or.inl ⟨h_279, ⟨z_282, ez_282, (Or.inr ⟨h_286, ⟨rfl, rfl, rfl, rfl, rfl⟩⟩)⟩⟩)⟩), rfl⟩)
          · skip
            have j_291 : u_270.toInt < xen.toInt := iv_nle h_279
            have iv_292 : IV u_270 0 899 := iv_ltL (iv_nle h_279) hv_271 iv_166 (zle_e rfl)
            refine k_aload_n X dX9_next_k3.1.1.2.1 0 rfl ?_
            refine k_get (ci := 9) X inlX9 rfl 10 (nlt_e rfl) dX9_next_k3.1.1.2.2 mw68 0 rfl rfl ?_
            refine k_aload_n X dX9_next_k3.1.2.1.1 0 rfl ?_
            refine k_get (ci := 9) X inlX9 rfl 4 (nlt_e rfl) dX9_next_k3.1.2.1.2 mw59 0 rfl rfl ?_
            refine k_alen 900 0 X dX9_next_k3.1.2.2.1 1 rfl rfl (by show Int32.ofNat 900 = 900; decide) ?_
            refine k_ic_ge 209 X dX9_next_k3.1.2.2.2 (jp_e rfl) (fun h_293 => (iv_leN (iv_le h_293) iq_900_900_900 iv_292 (by decide)).elim) (fun h_293 => ?_)
            have j_294 : u_270.toInt < 900 := iv_nle h_293
            refine k_aload_n X dX9_next_k3.2.1.1.1 0 rfl ?_
            refine k_aload_n X dX9_next_k3.2.1.1.2 0 rfl ?_
            refine k_get (ci := 9) X inlX9 rfl 10 (nlt_e rfl) dX9_next_k3.2.1.2.1 mw68 0 rfl rfl ?_
            refine k_callVI (n := 1) (As := [.int u_270]) (st := []) X [(cO9_i1r1i2r1i1r2i4l1i2 h0 xtpd th xfn xfp tp xen nm nd r_172 u_1 u_270 u_272 u_273 xtk xta), (cAB g tp 900 tpf)] [] [0, 1] [] (x_kindAtX l g h0 u_270 xtpd th xfn xfp tp xen nm nd r_172 u_1 u_270 u_272 u_273 xtk xta tpf) dX9_next_k3.2.1.2.2 mw242 mw243 mw244 mw15 mw245 rfl 9 rfl rfl 0 _ rfl yk_yX9_kindAt_1 rfl (Nat.le_of_ble_eq_true rfl) (Nat.le_of_ble_eq_true rfl) (Nat.le_of_ble_eq_true rfl) (Nat.le_of_ble_eq_true rfl) (Nat.le_of_ble_eq_true rfl) rfl rfl (vnd_e rfl) rfl (vnd_e rfl) (dsj_e rfl) ?_
            rintro r_295 w ⟨iv_296, hq_297, hq_298, rfl⟩
            refine k_ws [(cO9_i1r1i2r1i1r2i4l1i2 h0 xtpd th xfn xfp tp xen nm nd r_172 u_1 u_270 u_272 u_273 xtk xta), (cAB g tp 900 tpf)] rfl ?_
            refine k_aload_n X dX9_next_k3.2.2.1.1 0 rfl ?_
            refine k_get (ci := 9) X inlX9 rfl 8 (nlt_e rfl) dX9_next_k3.2.2.1.2 mw66 0 rfl rfl ?_
            refine k_ic_ne 209 X dX9_next_k3.2.2.2.1 (jp_e rfl) (fun h_299 => ?_) (fun h_299 => ?_)
            · skip
              refine k_aload_n X dX9_next_k6.2.2.2.1 0 rfl ?_
              refine k_get (ci := 9) X inlX9 rfl 10 (nlt_e rfl) dX9_next_k6.2.2.2.2 mw68 0 rfl rfl ?_
              refine k_aload_n X dX9_next_k7.1.1.1 0 rfl ?_
              refine k_get (ci := 9) X inlX9 rfl 9 (nlt_e rfl) dX9_next_k7.1.1.2.1 mw67 0 rfl rfl ?_
              refine k_isub X dX9_next_k7.1.1.2.2 ?_
              refine k_nm (fun z_300 ez_300 => ?_)
              have i_301 : z_300.toInt = u_270.toInt - u_1.toInt := in_sub ez_300 iv_292 iv_165 (zle_e rfl) (zle_e rfl)
              have iv_302 : IV z_300 (-899) 899 := by have := iv_292; have := iv_165; rw [IV, i_301]; omega
              refine k_aload_n X dX9_next_k7.1.2.1.1 0 rfl ?_
              refine k_get (ci := 9) X inlX9 rfl 8 (nlt_e rfl) dX9_next_k7.1.2.1.2 mw66 0 rfl rfl ?_
              refine k_iconst (v := 1) X dX9_next_k7.1.2.2.1 ic_1 ?_
              refine k_ic_ne 231 X dX9_next_k7.1.2.2.2 (jp_e rfl) (fun h_303 => ?_) (fun h_303 => (iv_eqN h_303 iv_269 iq_1_1_1 (by decide)).elim)
              refine k_iconst (v := 4) X dX9_next_k7.2.1.2.1 ic_4 ?_
              refine k_ic_le 241 X dX9_next_k7.2.1.2.2 (jp_e rfl) (fun h_304 => ?_) (fun h_304 => ?_)
              · skip
                have j_305 : z_300.toInt ≤ 4 := iv_le h_304
                have iv_306 : IV z_300 (-899) 4 := iv_leL (iv_le h_304) iv_302 iq_4_4_4 (zle_e rfl)
                exact k_vret X hr dX9_next_k7.2.2.2.2 (Nat.le_of_ble_eq_true rfl) (Nat.le_of_ble_eq_true rfl) [0, 1] (vnd_e rfl) rfl rfl (exI5 r_172 u_1 u_270 u_272 u_273 ⟨(iv_w iv_165 (zle_e rfl) (zle_e rfl)), (iv_w iv_292 (zle_e rfl) (zle_e rfl)), (iv_w iv_269 (zle_e rfl) (zle_e rfl)), (KH_4 _ _ _ _ _ ⟨0 + 1, (Or.inr ⟨h_279, ⟨r_295, hq_298, (Or.inl ⟨h_299, ⟨z_300, ez_300, (Or.inl ⟨h_304, ⟨rfl, rfl, rfl, rfl, rfl⟩⟩)⟩⟩)⟩⟩)⟩), rfl⟩)
              · skip
                have j_307 : 4 < z_300.toInt := iv_nle h_304
                have iv_308 : IV z_300 5 899 := iv_ltR (iv_nle h_304) iq_4_4_4 iv_302 (zle_e rfl)
                refine k_aload_n X dX9_next_k7.2.2.1.1 0 rfl ?_
                refine k_bipush (v := 6) X dX9_next_k7.2.2.1.2 bi_6 ?_
                refine k_put (ci := 9) [(cO9_i1r1i2r1i1r2i4l1i2 h0 xtpd th xfn xfp tp xen nm nd 6 u_1 u_270 u_272 u_273 xtk xta), (cAB g tp 900 tpf)] X inlX9 rfl tyX9_ok nmX9 8 (nlt_e rfl) rfl dX9_next_k7.2.2.2.1 mw66 0 rfl rfl rfl (Nat.le_of_ble_eq_true rfl) rfl ?_
                exact k_vret X hr dX9_next_k7.2.2.2.2 (Nat.le_of_ble_eq_true rfl) (Nat.le_of_ble_eq_true rfl) [0, 1] (vnd_e rfl) rfl rfl (exI5 6 u_1 u_270 u_272 u_273 ⟨(iv_w iv_165 (zle_e rfl) (zle_e rfl)), (iv_w iv_292 (zle_e rfl) (zle_e rfl)), (iv_w iq_6_6_6 (zle_e rfl) (zle_e rfl)), (KH_4 _ _ _ _ _ ⟨0 + 1, (Or.inr ⟨h_279, ⟨r_295, hq_298, (Or.inl ⟨h_299, ⟨z_300, ez_300, (Or.inr ⟨h_304, ⟨rfl, rfl, rfl, rfl, rfl⟩⟩)⟩⟩)⟩⟩)⟩), rfl⟩)
            · skip
              have iv_309 : IV r_295 2 2 := iv_meet iv_296 (iv_e h_299 iv_269) (zle_o rfl) (zle_o rfl)
              refine k_aload_n X dX9_next_k3.2.2.2.2 0 rfl ?_
              refine k_aload_n X dX9_next_k4.1.1.1.1 0 rfl ?_
              refine k_get (ci := 9) X inlX9 rfl 12 (nlt_e rfl) dX9_next_k4.1.1.1.2 mw70 0 rfl rfl ?_
              refine k_ldc2 (v := 27) X dX9_next_k4.1.1.2.1 mw241 ?_
              refine k_lmul X dX9_next_k4.1.1.2.2 ?_
              refine k_nmL (fun y_310 ey_310 => ?_)
              refine k_aload_n X dX9_next_k4.1.2.1.1 0 rfl ?_
              refine k_get (ci := 9) X inlX9 rfl 4 (nlt_e rfl) dX9_next_k4.1.2.1.2 mw59 0 rfl rfl ?_
              refine k_aload_n X dX9_next_k4.1.2.2.1 0 rfl ?_
              refine k_get (ci := 9) X inlX9 rfl 10 (nlt_e rfl) dX9_next_k4.1.2.2.2 mw68 0 rfl rfl ?_
              refine k_bald X dX9_next_k4.2.1.1.1 1 rfl (iv_in iv_292 (zle_e rfl) (zle_l rfl)) ?_
              refine k_nm (fun z_311 ez_311 => ?_)
              refine k_bipush (v := 97) X dX9_next_k4.2.1.1.2 bi_97 ?_
              refine k_isub X dX9_next_k4.2.1.2.1 ?_
              refine k_nm (fun z_312 ez_312 => ?_)
              refine k_iconst (v := 1) X dX9_next_k4.2.1.2.2 ic_1 ?_
              refine k_iadd X dX9_next_k4.2.2.1.1 ?_
              refine k_nm (fun z_314 ez_314 => ?_)
              refine k_i2l X dX9_next_k4.2.2.1.2 ?_
              refine k_nmL (fun y_316 ey_316 => ?_)
              refine k_ladd X dX9_next_k4.2.2.2.1 ?_
              refine k_nmL (fun y_317 ey_317 => ?_)
              refine k_put (ci := 9) [(cO9_i1r1i2r1i1r2i4l1i2 h0 xtpd th xfn xfp tp xen nm nd r_172 u_1 u_270 u_272 y_317 xtk xta), (cAB g tp 900 tpf)] X inlX9 rfl tyX9_ok nmX9 12 (nlt_e rfl) rfl dX9_next_k4.2.2.2.2 mw70 0 rfl rfl rfl (Nat.le_of_ble_eq_true rfl) rfl ?_
              refine k_aload_n X dX9_next_k5.1.1.1.1 0 rfl ?_
              refine k_aload_n X dX9_next_k5.1.1.1.2 0 rfl ?_
              refine k_get (ci := 9) X inlX9 rfl 11 (nlt_e rfl) dX9_next_k5.1.1.2.1 mw69 0 rfl rfl ?_
              refine k_bipush (v := 10) X dX9_next_k5.1.1.2.2 bi_10 ?_
              refine k_imul X dX9_next_k5.1.2.1.1 ?_
              refine k_nm (fun z_318 ez_318 => ?_)
              refine k_aload_n X dX9_next_k5.1.2.1.2 0 rfl ?_
              refine k_get (ci := 9) X inlX9 rfl 4 (nlt_e rfl) dX9_next_k5.1.2.2.1 mw59 0 rfl rfl ?_
              refine k_aload_n X dX9_next_k5.1.2.2.2 0 rfl ?_
              refine k_get (ci := 9) X inlX9 rfl 10 (nlt_e rfl) dX9_next_k5.2.1.1.1 mw68 0 rfl rfl ?_
              refine k_bald X dX9_next_k5.2.1.1.2 1 rfl (iv_in iv_292 (zle_e rfl) (zle_l rfl)) ?_
              refine k_nm (fun z_320 ez_320 => ?_)
              refine k_bipush (v := 48) X dX9_next_k5.2.1.2.1 bi_48 ?_
              refine k_isub X dX9_next_k5.2.1.2.2 ?_
              refine k_nm (fun z_321 ez_321 => ?_)
              refine k_iadd X dX9_next_k5.2.2.1.1 ?_
              refine k_nm (fun z_323 ez_323 => ?_)
              refine k_put (ci := 9) [(cO9_i1r1i2r1i1r2i4l1i2 h0 xtpd th xfn xfp tp xen nm nd r_172 u_1 u_270 z_323 y_317 xtk xta), (cAB g tp 900 tpf)] X inlX9 rfl tyX9_ok nmX9 11 (nlt_e rfl) rfl dX9_next_k5.2.2.1.2 mw69 0 rfl rfl rfl (Nat.le_of_ble_eq_true rfl) rfl ?_
              refine k_aload_n X dX9_next_k5.2.2.2.1 0 rfl ?_
              refine k_dup X dX9_next_k5.2.2.2.2 rfl ?_
              refine k_get (ci := 9) X inlX9 rfl 10 (nlt_e rfl) dX9_next_k6.1.1.1.1 mw68 0 rfl rfl ?_
              refine k_iconst (v := 1) X dX9_next_k6.1.1.1.2 ic_1 ?_
              refine k_iadd X dX9_next_k6.1.1.2.1 ?_
              refine k_nm (fun z_325 ez_325 => ?_)
              have i_326 : z_325.toInt = u_270.toInt + 1 := in_add ez_325 iv_292 iq_1_1_1 (zle_e rfl) (zle_e rfl)
              have iv_327 : IV z_325 1 900 := iz1 i_326 iv_292 (zle_e rfl) (zle_e rfl)
              refine k_put (ci := 9) [(cO9_i1r1i2r1i1r2i4l1i2 h0 xtpd th xfn xfp tp xen nm nd r_172 u_1 z_325 z_323 y_317 xtk xta), (cAB g tp 900 tpf)] X inlX9 rfl tyX9_ok nmX9 10 (nlt_e rfl) rfl dX9_next_k6.1.1.2.2 mw68 0 rfl rfl rfl (Nat.le_of_ble_eq_true rfl) rfl ?_
              refine k_goto 82 X dX9_next_k6.1.2.1.1 (jp_e rfl) ?_
              exact ih_276 _ (by omega) z_325 z_323 y_317 rfl (iv_w iv_327 (zle_e rfl) (zle_e rfl)) (fun xkd2 xsta2 xpo2 xva2 xle2 h => h.elim (fun n_4 q => (KH_4 _ _ _ _ _ ⟨n_4 + 1, (Or.inr ⟨h_279, ⟨r_295, hq_298, (Or.inr ⟨h_299, ⟨y_310, ey_310, ⟨z_311, ez_311, ⟨z_312, ez_312, ⟨z_314, ez_314, ⟨y_316, ey_316, ⟨y_317, ey_317, ⟨z_318, ez_318, ⟨z_320, ez_320, ⟨z_321, ez_321, ⟨z_323, ez_323, ⟨z_325, ez_325, q⟩⟩⟩⟩⟩⟩⟩⟩⟩⟩⟩⟩)⟩⟩)⟩)))
    · skip
      have iv_328 : IV r_167 5 5 := iv_meet iv_168 (iv_e h_171 iq_5_5_5) (zle_o rfl) (zle_o rfl)
      refine k_aload_n X dX9_next_k0.2.1.2.2 0 rfl ?_
      refine k_dup X dX9_next_k0.2.2.1.1 rfl ?_
      refine k_get (ci := 9) X inlX9 rfl 10 (nlt_e rfl) dX9_next_k0.2.2.1.2 mw68 0 rfl rfl ?_
      refine k_iconst (v := 1) X dX9_next_k0.2.2.2.1 ic_1 ?_
      refine k_iadd X dX9_next_k0.2.2.2.2 ?_
      refine k_nm (fun z_329 ez_329 => ?_)
      have i_330 : z_329.toInt = u_1.toInt + 1 := in_add ez_329 iv_165 iq_1_1_1 (zle_e rfl) (zle_e rfl)
      have iv_331 : IV z_329 1 900 := iz1 i_330 iv_165 (zle_e rfl) (zle_e rfl)
      refine k_put (ci := 9) [(cO9_i1r1i2r1i1r2i4l1i2 h0 xtpd th xfn xfp tp xen nm nd xkd xsta z_329 xva xle xtk xta), (cAB g tp 900 tpf)] X inlX9 rfl tyX9_ok nmX9 10 (nlt_e rfl) rfl dX9_next_k1.1.1.1.1 mw68 0 rfl rfl rfl (Nat.le_of_ble_eq_true rfl) rfl ?_
      refine k_goto 0 X dX9_next_k1.1.1.1.2 (jp_e rfl) ?_
      exact ih_5 _ (by omega) z_329 rfl (iv_w iv_331 (zle_e rfl) (zle_e rfl)) (fun xkd2 xsta2 xpo2 xva2 xle2 h => h.elim (fun n_0 q => (KH_0 _ _ _ _ _ ⟨n_0 + 1, (Or.inr ⟨h_6, ⟨r_167, hq_170, (Or.inr ⟨h_171, ⟨z_329, ez_329, q⟩⟩)⟩⟩)⟩)))


set_option maxHeartbeats 4000000 in
set_option maxRecDepth 100000 in
theorem x_isX (l : Launch) (g : Gx) (h0 : Nat) (sa : Nat) (xtpd : Int32) (th : Nat) (xfn : Int32) (xfp : Int32) (tp : Nat) (xen : Int32) (nm : Nat) (nd : Nat) (xkd : Int32) (xsta : Int32) (xpo : Int32) (xva : Int32) (xle : Int64) (xtk : Int32) (xta : Int32) (tpf : Nat → Int32) (tx_sa : String) (hv_xsta : IV xsta 0 900) (hp_sa : LtS g sa tx_sa) : cI l g yX9_is cX9_is 3 (some .boolean) 4 85 0 0 [.ref h0, .ref sa] [(cO9_i1r1i2r1i1r2i4l1i2 h0 xtpd th xfn xfp tp xen nm nd xkd xsta xpo xva xle xtk xta), (cAB g tp 900 tpf)] (fun r w => IV r 0 1 ∧ (R_x_isX xkd xsta xpo tpf tx_sa r) ∧ w = [(cO9_i1r1i2r1i1r2i4l1i2 h0 xtpd th xfn xfp tp xen nm nd xkd xsta xpo xva xle xtk xta), (cAB g tp 900 tpf)]) := by
  refine cI.of (by decide) (Nat.le_of_ble_eq_true rfl) ?_
  intro p e s m args below meth c A X hr hi
  refine k_lveq [(0, .ref h0), (1, .ref sa)] rfl ?_
  refine k_aload_n X dX9_is_k0.1.1.1.1 0 rfl ?_
  refine k_get (ci := 9) X inlX9 rfl 8 (nlt_e rfl) dX9_is_k0.1.1.1.2 mw66 0 rfl rfl ?_
  refine k_iconst (v := 1) X dX9_is_k0.1.1.2.1 ic_1 ?_
  refine k_ic_ne 31 X dX9_is_k0.1.1.2.2 (jp_e rfl) (fun h_1 => ?_) (fun h_1 => ?_)
  · skip
    refine k_iconst (v := 0) X dX9_is_k0.2.2.2.2 ic_0 ?_
    exact k_zret X hr (by first | rfl | decide) dX9_is_k1.1.1.1.1 (Nat.le_of_ble_eq_true rfl) (Nat.le_of_ble_eq_true rfl) [0, 1] (vnd_e rfl) rfl rfl ⟨(iv_w iq_0_0_0 (zle_e rfl) (zle_e rfl)), (Or.inl ⟨h_1, rfl⟩), rfl⟩
  · skip
    have iv_2 : IV xkd 1 1 := iv_meet (iv_any xkd) (iv_e h_1 iq_1_1_1) (zle_o rfl) (zle_o rfl)
    refine k_aload_n X dX9_is_k0.1.2.1.1 0 rfl ?_
    refine k_get (ci := 9) X inlX9 rfl 9 (nlt_e rfl) dX9_is_k0.1.2.1.2 mw67 0 rfl rfl ?_
    refine k_if_lt 31 X dX9_is_k0.1.2.2.1 (jp_e rfl) (fun h_3 => (iv_ltN (iv_lt h_3) hv_xsta iq_0_0_0 (zle_e rfl)).elim) (fun h_3 => ?_)
    have j_4 : 0 ≤ xsta.toInt := iv_nlt h_3
    refine k_aload_n X dX9_is_k0.1.2.2.2 1 rfl ?_
    refine k_callLI (n := 0) (As := []) (st := []) X [] [(cO9_i1r1i2r1i1r2i4l1i2 h0 xtpd th xfn xfp tp xen nm nd xkd xsta xpo xva xle xtk xta), (cAB g tp 900 tpf)] [] [0, 1] (j_length l g sa tx_sa hp_sa) dX9_is_k0.2.1.1.1 mw256 mw257 mw258 mw259 mw260 rfl hp_sa rfl yk_yJ0_length_8abf5_0 rfl (Nat.le_of_ble_eq_true rfl) (Nat.le_of_ble_eq_true rfl) (Nat.le_of_ble_eq_true rfl) (Nat.le_of_ble_eq_true rfl) (Nat.le_of_ble_eq_true rfl) rfl rfl (vnd_e rfl) rfl (vnd_e rfl) (dsj_e rfl) ?_
    rintro r_5 w ⟨iv_6, hq_7, rfl⟩
    refine k_ws [(cO9_i1r1i2r1i1r2i4l1i2 h0 xtpd th xfn xfp tp xen nm nd xkd xsta xpo xva xle xtk xta), (cAB g tp 900 tpf)] rfl ?_
    refine k_aload_n X dX9_is_k0.2.1.1.2 0 rfl ?_
    refine k_get (ci := 9) X inlX9 rfl 10 (nlt_e rfl) dX9_is_k0.2.1.2.1 mw68 0 rfl rfl ?_
    refine k_aload_n X dX9_is_k0.2.1.2.2 0 rfl ?_
    refine k_get (ci := 9) X inlX9 rfl 9 (nlt_e rfl) dX9_is_k0.2.2.1.1 mw67 0 rfl rfl ?_
    refine k_isub X dX9_is_k0.2.2.1.2 ?_
    refine k_nm (fun z_8 ez_8 => ?_)
    refine k_ic_eq 33 X dX9_is_k0.2.2.2.1 (jp_e rfl) (fun h_10 => ?_) (fun h_10 => ?_)
    · skip
      have iv_11 : IV z_8 0 8 := iv_meet (iv_any z_8) (iv_e h_10.symm iv_6) (zle_o rfl) (zle_o rfl)
      refine k_iconst (v := 0) X dX9_is_k1.1.1.1.2 ic_0 ?_
      refine k_istore_n [(2, .int 0), (0, .ref h0), (1, .ref sa)] X dX9_is_k1.1.1.2.1 (nlt_e rfl) rfl ?_
      refine (fun hL : ∀ (nn_14 : Nat) (u_12 : Int32), (9 - u_12.toInt).toNat = nn_14 → (IV u_12 0 8) → (∀ (r : Int32), (∃ n_0 : Nat, R_x_isX_L0 xsta tpf tx_sa r (r = 1) (r = 1) n_0 u_12) → R_x_isX xkd xsta xpo tpf tx_sa r) → Wk p l e _ s m args below meth c _ A g _ _ _ [(cO9_i1r1i2r1i1r2i4l1i2 h0 xtpd th xfn xfp tp xen nm nd xkd xsta xpo xva xle xtk xta), (cAB g tp 900 tpf)] [(2, .int u_12), (0, .ref h0), (1, .ref sa)] 35 [] => hL _ 0 rfl (iv_w iq_0_0_0 (zle_e rfl) (zle_e rfl)) (fun r h => (Or.inr ⟨h_1, ⟨r_5, hq_7, ⟨z_8, ez_8, (Or.inl ⟨h_10, h⟩)⟩⟩⟩))) ?_
      refine fun nn_14 => Nat.strongRecOn nn_14 (fun nn_14 ih_16 => ?_)
      intro u_12 hm_15 hv_13 KH_0
      refine k_iload_n X dX9_is_k1.1.1.2.2 0 rfl ?_
      refine k_aload_n X dX9_is_k1.1.2.1.1 2 rfl ?_
      refine k_callLI (n := 0) (As := []) (st := [.int u_12]) X [] [(cO9_i1r1i2r1i1r2i4l1i2 h0 xtpd th xfn xfp tp xen nm nd xkd xsta xpo xva xle xtk xta), (cAB g tp 900 tpf)] [] [0, 1] (j_length l g sa tx_sa hp_sa) dX9_is_k1.1.2.1.2 mw256 mw257 mw258 mw259 mw260 rfl hp_sa rfl yk_yJ0_length_8abf5_0 rfl (Nat.le_of_ble_eq_true rfl) (Nat.le_of_ble_eq_true rfl) (Nat.le_of_ble_eq_true rfl) (Nat.le_of_ble_eq_true rfl) (Nat.le_of_ble_eq_true rfl) rfl rfl (vnd_e rfl) rfl (vnd_e rfl) (dsj_e rfl) ?_
      rintro r_17 w ⟨iv_18, hq_19, rfl⟩
      refine k_ws [(cO9_i1r1i2r1i1r2i4l1i2 h0 xtpd th xfn xfp tp xen nm nd xkd xsta xpo xva xle xtk xta), (cAB g tp 900 tpf)] rfl ?_
      refine k_ic_ge 84 X dX9_is_k1.1.2.2.1 (jp_e rfl) (fun h_20 => ?_) (fun h_20 => ?_)
      · skip
        have j_21 : r_17.toInt ≤ u_12.toInt := iv_le h_20
        refine k_iconst (v := 1) X dX9_is_k2.2.2.2.1 ic_1 ?_
        exact k_zret X hr (by first | rfl | decide) dX9_is_k2.2.2.2.2 (Nat.le_of_ble_eq_true rfl) (Nat.le_of_ble_eq_true rfl) [0, 1] (vnd_e rfl) rfl rfl ⟨(iv_w iq_1_1_1 (zle_e rfl) (zle_e rfl)), (KH_0 _ ⟨0 + 1, ⟨r_17, hq_19, (Or.inl ⟨h_20, rfl⟩)⟩⟩), rfl⟩
      · skip
        have j_22 : u_12.toInt < r_17.toInt := iv_nle h_20
        have iv_23 : IV u_12 0 7 := iv_ltL (iv_nle h_20) hv_13 iv_18 (zle_e rfl)
        have iv_24 : IV r_17 1 8 := iv_ltR (iv_nle h_20) hv_13 iv_18 (zle_e rfl)
        refine k_aload_n X dX9_is_k1.1.2.2.2 1 rfl ?_
        refine k_get (ci := 9) X inlX9 rfl 9 (nlt_e rfl) dX9_is_k1.2.1.1.1 mw67 0 rfl rfl ?_
        refine k_iload_n X dX9_is_k1.2.1.1.2 0 rfl ?_
        refine k_iadd X dX9_is_k1.2.1.2.1 ?_
        refine k_nm (fun z_25 ez_25 => ?_)
        have i_26 : z_25.toInt = xsta.toInt + u_12.toInt := in_add ez_25 hv_xsta iv_23 (zle_e rfl) (zle_e rfl)
        have iv_27 : IV z_25 0 907 := by have := hv_xsta; have := iv_23; rw [IV, i_26]; omega
        refine k_aload_n X dX9_is_k1.2.1.2.2 1 rfl ?_
        refine k_get (ci := 9) X inlX9 rfl 4 (nlt_e rfl) dX9_is_k1.2.2.1.1 mw59 0 rfl rfl ?_
        refine k_alen 900 0 X dX9_is_k1.2.2.1.2 1 rfl rfl (by show Int32.ofNat 900 = 900; decide) ?_
        refine k_ic_ge 84 X dX9_is_k1.2.2.2.1 (jp_e rfl) (fun h_28 => ?_) (fun h_28 => ?_)
        · skip
          have j_29 : 900 ≤ z_25.toInt := iv_le h_28
          have iv_30 : IV z_25 900 907 := iv_leR (iv_le h_28) iq_900_900_900 iv_27 (zle_e rfl)
          refine k_iconst (v := 1) X dX9_is_k2.2.2.2.1 ic_1 ?_
          exact k_zret X hr (by first | rfl | decide) dX9_is_k2.2.2.2.2 (Nat.le_of_ble_eq_true rfl) (Nat.le_of_ble_eq_true rfl) [0, 1] (vnd_e rfl) rfl rfl ⟨(iv_w iq_1_1_1 (zle_e rfl) (zle_e rfl)), (KH_0 _ ⟨0 + 1, ⟨r_17, hq_19, (Or.inr ⟨h_20, ⟨z_25, ez_25, (Or.inl ⟨h_28, rfl⟩)⟩⟩)⟩⟩), rfl⟩
        · skip
          have j_31 : z_25.toInt < 900 := iv_nle h_28
          have iv_32 : IV z_25 0 899 := iv_ltL (iv_nle h_28) iv_27 iq_900_900_900 (zle_e rfl)
          refine k_aload_n X dX9_is_k1.2.2.2.2 1 rfl ?_
          refine k_get (ci := 9) X inlX9 rfl 4 (nlt_e rfl) dX9_is_k2.1.1.1.1 mw59 0 rfl rfl ?_
          refine k_aload_n X dX9_is_k2.1.1.1.2 1 rfl ?_
          refine k_get (ci := 9) X inlX9 rfl 9 (nlt_e rfl) dX9_is_k2.1.1.2.1 mw67 0 rfl rfl ?_
          refine k_iload_n X dX9_is_k2.1.1.2.2 0 rfl ?_
          refine k_iadd X dX9_is_k2.1.2.1.1 ?_
          refine k_to z_25 ez_25.symm ?_
          refine k_bald X dX9_is_k2.1.2.1.2 1 rfl (iv_in iv_32 (zle_e rfl) (zle_l rfl)) ?_
          refine k_nm (fun z_33 ez_33 => ?_)
          refine k_aload_n X dX9_is_k2.1.2.2.1 2 rfl ?_
          refine k_iload_n X dX9_is_k2.1.2.2.2 0 rfl ?_
          refine k_callLI (n := 1) (As := [.int u_12]) (st := [.int z_33]) X [] [(cO9_i1r1i2r1i1r2i4l1i2 h0 xtpd th xfn xfp tp xen nm nd xkd xsta xpo xva xle xtk xta), (cAB g tp 900 tpf)] [] [0, 1] (j_charAt l g sa u_12 tx_sa (iv_w iv_23 (zle_e rfl) (zle_e rfl)) hp_sa (by first | assumption | (subst_vars; first | assumption | exact Int32.not_le.mp (by assumption)))) dX9_is_k2.2.1.1.1 mw268 mw269 mw270 mw259 mw271 rfl hp_sa rfl yk_yJ0_charAt_5068e_1 rfl (Nat.le_of_ble_eq_true rfl) (Nat.le_of_ble_eq_true rfl) (Nat.le_of_ble_eq_true rfl) (Nat.le_of_ble_eq_true rfl) (Nat.le_of_ble_eq_true rfl) rfl rfl (vnd_e rfl) rfl (vnd_e rfl) (dsj_e rfl) ?_
          rintro r_34 w ⟨hq_35, rfl⟩
          refine k_ws [(cO9_i1r1i2r1i1r2i4l1i2 h0 xtpd th xfn xfp tp xen nm nd xkd xsta xpo xva xle xtk xta), (cAB g tp 900 tpf)] rfl ?_
          refine k_ic_eq 78 X dX9_is_k2.2.1.1.2 (jp_e rfl) (fun h_36 => ?_) (fun h_36 => ?_)
          · skip
            obtain ⟨z_37, ez_37⟩ : ∃ y : Int32, u_12 + Int32.ofInt 1 = y := ⟨_, rfl⟩
            refine k_iinc z_37 [(2, .int z_37), (0, .ref h0), (1, .ref sa)] 0 X dX9_is_k2.2.2.1.1 rfl ez_37 (nlt_e rfl) rfl ?_
            have i_38 : z_37.toInt = u_12.toInt + 1 := in_inc ez_37 (oin_e rfl) iv_23 (zle_e rfl) (zle_e rfl)
            have iv_39 : IV z_37 1 8 := iz1 i_38 iv_23 (zle_e rfl) (zle_e rfl)
            refine k_goto 35 X dX9_is_k2.2.2.1.2 (jp_e rfl) ?_
            exact ih_16 _ (by omega) z_37 rfl (iv_w iv_39 (zle_e rfl) (zle_e rfl)) (fun r h => h.elim (fun n_0 q => (KH_0 _ ⟨n_0 + 1, ⟨r_17, hq_19, (Or.inr ⟨h_20, ⟨z_25, ez_25, (Or.inr ⟨h_28, ⟨z_33, ez_33, ⟨r_34, hq_35, (Or.inl ⟨h_36, ⟨z_37, ez_37, q⟩⟩)⟩⟩⟩)⟩⟩)⟩⟩)))
          · skip
            refine k_iconst (v := 0) X dX9_is_k2.2.1.2.1 ic_0 ?_
            exact k_zret X hr (by first | rfl | decide) dX9_is_k2.2.1.2.2 (Nat.le_of_ble_eq_true rfl) (Nat.le_of_ble_eq_true rfl) [0, 1] (vnd_e rfl) rfl rfl ⟨(iv_w iq_0_0_0 (zle_e rfl) (zle_e rfl)), (KH_0 _ ⟨0 + 1, ⟨r_17, hq_19, (Or.inr ⟨h_20, ⟨z_25, ez_25, (Or.inr ⟨h_28, ⟨z_33, ez_33, ⟨r_34, hq_35, (Or.inr ⟨h_36, rfl⟩)⟩⟩⟩)⟩⟩)⟩⟩), rfl⟩
    · skip
      refine k_iconst (v := 0) X dX9_is_k0.2.2.2.2 ic_0 ?_
      exact k_zret X hr (by first | rfl | decide) dX9_is_k1.1.1.1.1 (Nat.le_of_ble_eq_true rfl) (Nat.le_of_ble_eq_true rfl) [0, 1] (vnd_e rfl) rfl rfl ⟨(iv_w iq_0_0_0 (zle_e rfl) (zle_e rfl)), (Or.inr ⟨h_1, ⟨r_5, hq_7, ⟨z_8, ez_8, (Or.inr ⟨h_10, rfl⟩)⟩⟩⟩), rfl⟩


set_option maxHeartbeats 4000000 in
set_option maxRecDepth 100000 in
theorem x_isReservedX (l : Launch) (g : Gx) (h0 : Nat) (xtpd : Int32) (th : Nat) (xfn : Int32) (xfp : Int32) (tp : Nat) (xen : Int32) (nm : Nat) (nd : Nat) (xkd : Int32) (xsta : Int32) (xpo : Int32) (xva : Int32) (xle : Int64) (xtk : Int32) (xta : Int32) (tpf : Nat → Int32) (hv_xsta : IV xsta 0 900) : cI l g yX9_isReserved cX9_isReserved 1 (some .boolean) 5 107 0 0 [.ref h0] [(cO9_i1r1i2r1i1r2i4l1i2 h0 xtpd th xfn xfp tp xen nm nd xkd xsta xpo xva xle xtk xta), (cAB g tp 900 tpf)] (fun r w => IV r 0 1 ∧ (R_x_isReservedX xkd xsta xpo tpf r) ∧ w = [(cO9_i1r1i2r1i1r2i4l1i2 h0 xtpd th xfn xfp tp xen nm nd xkd xsta xpo xva xle xtk xta), (cAB g tp 900 tpf)]) := by
  refine cI.of (by decide) (Nat.le_of_ble_eq_true rfl) ?_
  intro p e s m args below meth c A X hr hi
  refine k_lveq [(0, .ref h0)] rfl ?_
  refine k_aload_n X dX9_isReserved_k0.1.1.1.1 0 rfl ?_
  refine k_ldcS (tx := "house") X dX9_isReserved_k0.1.1.1.2 (by decide +kernel) (fun sr_1 hsr_1 => ?_)
  refine k_callVI (n := 1) (As := [.ref sr_1]) (st := []) X [(cO9_i1r1i2r1i1r2i4l1i2 h0 xtpd th xfn xfp tp xen nm nd xkd xsta xpo xva xle xtk xta), (cAB g tp 900 tpf)] [] [0, 1] [] (x_isX l g h0 sr_1 xtpd th xfn xfp tp xen nm nd xkd xsta xpo xva xle xtk xta tpf ("house") (iv_w hv_xsta (zle_e rfl) (zle_e rfl)) hsr_1) dX9_isReserved_k0.1.1.2.1 mw252 mw253 mw254 mw15 mw255 rfl 9 rfl rfl 0 _ rfl yk_yX9_is_1 rfl (Nat.le_of_ble_eq_true rfl) (Nat.le_of_ble_eq_true rfl) (Nat.le_of_ble_eq_true rfl) (Nat.le_of_ble_eq_true rfl) (Nat.le_of_ble_eq_true rfl) rfl rfl (vnd_e rfl) rfl (vnd_e rfl) (dsj_e rfl) ?_
  rintro r_2 w ⟨iv_3, hq_4, rfl⟩
  refine k_ws [(cO9_i1r1i2r1i1r2i4l1i2 h0 xtpd th xfn xfp tp xen nm nd xkd xsta xpo xva xle xtk xta), (cAB g tp 900 tpf)] rfl ?_
  refine k_if_ne 109 X dX9_isReserved_k0.1.1.2.2 (jp_e rfl) (fun h_5 => ?_) (fun h_5 => ?_)
  · skip
    have iv_6 : IV r_2 1 1 := iv_neL h_5 iv_3 iq_0_0_0 (zle_e rfl)
    refine k_iconst (v := 1) X dX9_isReserved_k3.1.1 ic_1 ?_
    refine k_goto 114 X dX9_isReserved_k3.1.2 (jp_e rfl) ?_
    exact k_zret X hr (by first | rfl | decide) dX9_isReserved_k3.2.2 (Nat.le_of_ble_eq_true rfl) (Nat.le_of_ble_eq_true rfl) [0, 1] (vnd_e rfl) rfl rfl ⟨(iv_w iq_1_1_1 (zle_e rfl) (zle_e rfl)), ⟨r_2, hq_4, (Or.inl ⟨h_5, rfl⟩)⟩, rfl⟩
  · skip
    have iv_7 : IV r_2 0 0 := iv_meet iv_3 (iv_e h_5 iq_0_0_0) (zle_o rfl) (zle_o rfl)
    refine k_aload_n X dX9_isReserved_k0.1.2.1.1 0 rfl ?_
    refine k_ldcS (tx := "reel") X dX9_isReserved_k0.1.2.1.2 (by decide +kernel) (fun sr_8 hsr_8 => ?_)
    refine k_callVI (n := 1) (As := [.ref sr_8]) (st := []) X [(cO9_i1r1i2r1i1r2i4l1i2 h0 xtpd th xfn xfp tp xen nm nd xkd xsta xpo xva xle xtk xta), (cAB g tp 900 tpf)] [] [0, 1] [] (x_isX l g h0 sr_8 xtpd th xfn xfp tp xen nm nd xkd xsta xpo xva xle xtk xta tpf ("reel") (iv_w hv_xsta (zle_e rfl) (zle_e rfl)) hsr_8) dX9_isReserved_k0.1.2.2.1 mw252 mw253 mw254 mw15 mw255 rfl 9 rfl rfl 0 _ rfl yk_yX9_is_1 rfl (Nat.le_of_ble_eq_true rfl) (Nat.le_of_ble_eq_true rfl) (Nat.le_of_ble_eq_true rfl) (Nat.le_of_ble_eq_true rfl) (Nat.le_of_ble_eq_true rfl) rfl rfl (vnd_e rfl) rfl (vnd_e rfl) (dsj_e rfl) ?_
    rintro r_9 w ⟨iv_10, hq_11, rfl⟩
    refine k_ws [(cO9_i1r1i2r1i1r2i4l1i2 h0 xtpd th xfn xfp tp xen nm nd xkd xsta xpo xva xle xtk xta), (cAB g tp 900 tpf)] rfl ?_
    refine k_if_ne 109 X dX9_isReserved_k0.1.2.2.2 (jp_e rfl) (fun h_12 => ?_) (fun h_12 => ?_)
    · skip
      have iv_13 : IV r_9 1 1 := iv_neL h_12 iv_10 iq_0_0_0 (zle_e rfl)
      refine k_iconst (v := 1) X dX9_isReserved_k3.1.1 ic_1 ?_
      refine k_goto 114 X dX9_isReserved_k3.1.2 (jp_e rfl) ?_
      exact k_zret X hr (by first | rfl | decide) dX9_isReserved_k3.2.2 (Nat.le_of_ble_eq_true rfl) (Nat.le_of_ble_eq_true rfl) [0, 1] (vnd_e rfl) rfl rfl ⟨(iv_w iq_1_1_1 (zle_e rfl) (zle_e rfl)), ⟨r_2, hq_4, (Or.inr ⟨h_5, ⟨r_9, hq_11, (Or.inl ⟨h_12, rfl⟩)⟩⟩)⟩, rfl⟩
    · skip
      have iv_14 : IV r_9 0 0 := iv_meet iv_10 (iv_e h_12 iq_0_0_0) (zle_o rfl) (zle_o rfl)
      refine k_aload_n X dX9_isReserved_k0.2.1.1.1 0 rfl ?_
      refine k_ldcS (tx := "town") X dX9_isReserved_k0.2.1.1.2 (by decide +kernel) (fun sr_15 hsr_15 => ?_)
      refine k_callVI (n := 1) (As := [.ref sr_15]) (st := []) X [(cO9_i1r1i2r1i1r2i4l1i2 h0 xtpd th xfn xfp tp xen nm nd xkd xsta xpo xva xle xtk xta), (cAB g tp 900 tpf)] [] [0, 1] [] (x_isX l g h0 sr_15 xtpd th xfn xfp tp xen nm nd xkd xsta xpo xva xle xtk xta tpf ("town") (iv_w hv_xsta (zle_e rfl) (zle_e rfl)) hsr_15) dX9_isReserved_k0.2.1.2.1 mw252 mw253 mw254 mw15 mw255 rfl 9 rfl rfl 0 _ rfl yk_yX9_is_1 rfl (Nat.le_of_ble_eq_true rfl) (Nat.le_of_ble_eq_true rfl) (Nat.le_of_ble_eq_true rfl) (Nat.le_of_ble_eq_true rfl) (Nat.le_of_ble_eq_true rfl) rfl rfl (vnd_e rfl) rfl (vnd_e rfl) (dsj_e rfl) ?_
      rintro r_16 w ⟨iv_17, hq_18, rfl⟩
      refine k_ws [(cO9_i1r1i2r1i1r2i4l1i2 h0 xtpd th xfn xfp tp xen nm nd xkd xsta xpo xva xle xtk xta), (cAB g tp 900 tpf)] rfl ?_
      refine k_if_ne 109 X dX9_isReserved_k0.2.1.2.2 (jp_e rfl) (fun h_19 => ?_) (fun h_19 => ?_)
      · skip
        have iv_20 : IV r_16 1 1 := iv_neL h_19 iv_17 iq_0_0_0 (zle_e rfl)
        refine k_iconst (v := 1) X dX9_isReserved_k3.1.1 ic_1 ?_
        refine k_goto 114 X dX9_isReserved_k3.1.2 (jp_e rfl) ?_
        exact k_zret X hr (by first | rfl | decide) dX9_isReserved_k3.2.2 (Nat.le_of_ble_eq_true rfl) (Nat.le_of_ble_eq_true rfl) [0, 1] (vnd_e rfl) rfl rfl ⟨(iv_w iq_1_1_1 (zle_e rfl) (zle_e rfl)), ⟨r_2, hq_4, (Or.inr ⟨h_5, ⟨r_9, hq_11, (Or.inr ⟨h_12, ⟨r_16, hq_18, (Or.inl ⟨h_19, rfl⟩)⟩⟩)⟩⟩)⟩, rfl⟩
      · skip
        have iv_21 : IV r_16 0 0 := iv_meet iv_17 (iv_e h_19 iq_0_0_0) (zle_o rfl) (zle_o rfl)
        refine k_aload_n X dX9_isReserved_k0.2.2.1.1 0 rfl ?_
        refine k_ldcS (tx := "mark") X dX9_isReserved_k0.2.2.1.2 (by decide +kernel) (fun sr_22 hsr_22 => ?_)
        refine k_callVI (n := 1) (As := [.ref sr_22]) (st := []) X [(cO9_i1r1i2r1i1r2i4l1i2 h0 xtpd th xfn xfp tp xen nm nd xkd xsta xpo xva xle xtk xta), (cAB g tp 900 tpf)] [] [0, 1] [] (x_isX l g h0 sr_22 xtpd th xfn xfp tp xen nm nd xkd xsta xpo xva xle xtk xta tpf ("mark") (iv_w hv_xsta (zle_e rfl) (zle_e rfl)) hsr_22) dX9_isReserved_k0.2.2.2.1 mw252 mw253 mw254 mw15 mw255 rfl 9 rfl rfl 0 _ rfl yk_yX9_is_1 rfl (Nat.le_of_ble_eq_true rfl) (Nat.le_of_ble_eq_true rfl) (Nat.le_of_ble_eq_true rfl) (Nat.le_of_ble_eq_true rfl) (Nat.le_of_ble_eq_true rfl) rfl rfl (vnd_e rfl) rfl (vnd_e rfl) (dsj_e rfl) ?_
        rintro r_23 w ⟨iv_24, hq_25, rfl⟩
        refine k_ws [(cO9_i1r1i2r1i1r2i4l1i2 h0 xtpd th xfn xfp tp xen nm nd xkd xsta xpo xva xle xtk xta), (cAB g tp 900 tpf)] rfl ?_
        refine k_if_ne 109 X dX9_isReserved_k0.2.2.2.2 (jp_e rfl) (fun h_26 => ?_) (fun h_26 => ?_)
        · skip
          have iv_27 : IV r_23 1 1 := iv_neL h_26 iv_24 iq_0_0_0 (zle_e rfl)
          refine k_iconst (v := 1) X dX9_isReserved_k3.1.1 ic_1 ?_
          refine k_goto 114 X dX9_isReserved_k3.1.2 (jp_e rfl) ?_
          exact k_zret X hr (by first | rfl | decide) dX9_isReserved_k3.2.2 (Nat.le_of_ble_eq_true rfl) (Nat.le_of_ble_eq_true rfl) [0, 1] (vnd_e rfl) rfl rfl ⟨(iv_w iq_1_1_1 (zle_e rfl) (zle_e rfl)), ⟨r_2, hq_4, (Or.inr ⟨h_5, ⟨r_9, hq_11, (Or.inr ⟨h_12, ⟨r_16, hq_18, (Or.inr ⟨h_19, ⟨r_23, hq_25, (Or.inl ⟨h_26, rfl⟩)⟩⟩)⟩⟩)⟩⟩)⟩, rfl⟩
        · skip
          have iv_28 : IV r_23 0 0 := iv_meet iv_24 (iv_e h_26 iq_0_0_0) (zle_o rfl) (zle_o rfl)
          refine k_aload_n X dX9_isReserved_k1.1.1.1.1 0 rfl ?_
          refine k_ldcS (tx := "join") X dX9_isReserved_k1.1.1.1.2 (by decide +kernel) (fun sr_29 hsr_29 => ?_)
          refine k_callVI (n := 1) (As := [.ref sr_29]) (st := []) X [(cO9_i1r1i2r1i1r2i4l1i2 h0 xtpd th xfn xfp tp xen nm nd xkd xsta xpo xva xle xtk xta), (cAB g tp 900 tpf)] [] [0, 1] [] (x_isX l g h0 sr_29 xtpd th xfn xfp tp xen nm nd xkd xsta xpo xva xle xtk xta tpf ("join") (iv_w hv_xsta (zle_e rfl) (zle_e rfl)) hsr_29) dX9_isReserved_k1.1.1.2.1 mw252 mw253 mw254 mw15 mw255 rfl 9 rfl rfl 0 _ rfl yk_yX9_is_1 rfl (Nat.le_of_ble_eq_true rfl) (Nat.le_of_ble_eq_true rfl) (Nat.le_of_ble_eq_true rfl) (Nat.le_of_ble_eq_true rfl) (Nat.le_of_ble_eq_true rfl) rfl rfl (vnd_e rfl) rfl (vnd_e rfl) (dsj_e rfl) ?_
          rintro r_30 w ⟨iv_31, hq_32, rfl⟩
          refine k_ws [(cO9_i1r1i2r1i1r2i4l1i2 h0 xtpd th xfn xfp tp xen nm nd xkd xsta xpo xva xle xtk xta), (cAB g tp 900 tpf)] rfl ?_
          refine k_if_ne 109 X dX9_isReserved_k1.1.1.2.2 (jp_e rfl) (fun h_33 => ?_) (fun h_33 => ?_)
          · skip
            have iv_34 : IV r_30 1 1 := iv_neL h_33 iv_31 iq_0_0_0 (zle_e rfl)
            refine k_iconst (v := 1) X dX9_isReserved_k3.1.1 ic_1 ?_
            refine k_goto 114 X dX9_isReserved_k3.1.2 (jp_e rfl) ?_
            exact k_zret X hr (by first | rfl | decide) dX9_isReserved_k3.2.2 (Nat.le_of_ble_eq_true rfl) (Nat.le_of_ble_eq_true rfl) [0, 1] (vnd_e rfl) rfl rfl ⟨(iv_w iq_1_1_1 (zle_e rfl) (zle_e rfl)), ⟨r_2, hq_4, (Or.inr ⟨h_5, ⟨r_9, hq_11, (Or.inr ⟨h_12, ⟨r_16, hq_18, (Or.inr ⟨h_19, ⟨r_23, hq_25, (Or.inr ⟨h_26, ⟨r_30, hq_32, (Or.inl ⟨h_33, rfl⟩)⟩⟩)⟩⟩)⟩⟩)⟩⟩)⟩, rfl⟩
          · skip
            have iv_35 : IV r_30 0 0 := iv_meet iv_31 (iv_e h_33 iq_0_0_0) (zle_o rfl) (zle_o rfl)
            refine k_aload_n X dX9_isReserved_k1.1.2.1.1 0 rfl ?_
            refine k_ldcS (tx := "weak") X dX9_isReserved_k1.1.2.1.2 (by decide +kernel) (fun sr_36 hsr_36 => ?_)
            refine k_callVI (n := 1) (As := [.ref sr_36]) (st := []) X [(cO9_i1r1i2r1i1r2i4l1i2 h0 xtpd th xfn xfp tp xen nm nd xkd xsta xpo xva xle xtk xta), (cAB g tp 900 tpf)] [] [0, 1] [] (x_isX l g h0 sr_36 xtpd th xfn xfp tp xen nm nd xkd xsta xpo xva xle xtk xta tpf ("weak") (iv_w hv_xsta (zle_e rfl) (zle_e rfl)) hsr_36) dX9_isReserved_k1.1.2.2.1 mw252 mw253 mw254 mw15 mw255 rfl 9 rfl rfl 0 _ rfl yk_yX9_is_1 rfl (Nat.le_of_ble_eq_true rfl) (Nat.le_of_ble_eq_true rfl) (Nat.le_of_ble_eq_true rfl) (Nat.le_of_ble_eq_true rfl) (Nat.le_of_ble_eq_true rfl) rfl rfl (vnd_e rfl) rfl (vnd_e rfl) (dsj_e rfl) ?_
            rintro r_37 w ⟨iv_38, hq_39, rfl⟩
            refine k_ws [(cO9_i1r1i2r1i1r2i4l1i2 h0 xtpd th xfn xfp tp xen nm nd xkd xsta xpo xva xle xtk xta), (cAB g tp 900 tpf)] rfl ?_
            refine k_if_ne 109 X dX9_isReserved_k1.1.2.2.2 (jp_e rfl) (fun h_40 => ?_) (fun h_40 => ?_)
            · skip
              have iv_41 : IV r_37 1 1 := iv_neL h_40 iv_38 iq_0_0_0 (zle_e rfl)
              refine k_iconst (v := 1) X dX9_isReserved_k3.1.1 ic_1 ?_
              refine k_goto 114 X dX9_isReserved_k3.1.2 (jp_e rfl) ?_
              exact k_zret X hr (by first | rfl | decide) dX9_isReserved_k3.2.2 (Nat.le_of_ble_eq_true rfl) (Nat.le_of_ble_eq_true rfl) [0, 1] (vnd_e rfl) rfl rfl ⟨(iv_w iq_1_1_1 (zle_e rfl) (zle_e rfl)), ⟨r_2, hq_4, (Or.inr ⟨h_5, ⟨r_9, hq_11, (Or.inr ⟨h_12, ⟨r_16, hq_18, (Or.inr ⟨h_19, ⟨r_23, hq_25, (Or.inr ⟨h_26, ⟨r_30, hq_32, (Or.inr ⟨h_33, ⟨r_37, hq_39, (Or.inl ⟨h_40, rfl⟩)⟩⟩)⟩⟩)⟩⟩)⟩⟩)⟩⟩)⟩, rfl⟩
            · skip
              have iv_42 : IV r_37 0 0 := iv_meet iv_38 (iv_e h_40 iq_0_0_0) (zle_o rfl) (zle_o rfl)
              refine k_aload_n X dX9_isReserved_k1.2.1.1.1 0 rfl ?_
              refine k_ldcS (tx := "man") X dX9_isReserved_k1.2.1.1.2 (by decide +kernel) (fun sr_43 hsr_43 => ?_)
              refine k_callVI (n := 1) (As := [.ref sr_43]) (st := []) X [(cO9_i1r1i2r1i1r2i4l1i2 h0 xtpd th xfn xfp tp xen nm nd xkd xsta xpo xva xle xtk xta), (cAB g tp 900 tpf)] [] [0, 1] [] (x_isX l g h0 sr_43 xtpd th xfn xfp tp xen nm nd xkd xsta xpo xva xle xtk xta tpf ("man") (iv_w hv_xsta (zle_e rfl) (zle_e rfl)) hsr_43) dX9_isReserved_k1.2.1.2.1 mw252 mw253 mw254 mw15 mw255 rfl 9 rfl rfl 0 _ rfl yk_yX9_is_1 rfl (Nat.le_of_ble_eq_true rfl) (Nat.le_of_ble_eq_true rfl) (Nat.le_of_ble_eq_true rfl) (Nat.le_of_ble_eq_true rfl) (Nat.le_of_ble_eq_true rfl) rfl rfl (vnd_e rfl) rfl (vnd_e rfl) (dsj_e rfl) ?_
              rintro r_44 w ⟨iv_45, hq_46, rfl⟩
              refine k_ws [(cO9_i1r1i2r1i1r2i4l1i2 h0 xtpd th xfn xfp tp xen nm nd xkd xsta xpo xva xle xtk xta), (cAB g tp 900 tpf)] rfl ?_
              refine k_if_ne 109 X dX9_isReserved_k1.2.1.2.2 (jp_e rfl) (fun h_47 => ?_) (fun h_47 => ?_)
              · skip
                have iv_48 : IV r_44 1 1 := iv_neL h_47 iv_45 iq_0_0_0 (zle_e rfl)
                refine k_iconst (v := 1) X dX9_isReserved_k3.1.1 ic_1 ?_
                refine k_goto 114 X dX9_isReserved_k3.1.2 (jp_e rfl) ?_
                exact k_zret X hr (by first | rfl | decide) dX9_isReserved_k3.2.2 (Nat.le_of_ble_eq_true rfl) (Nat.le_of_ble_eq_true rfl) [0, 1] (vnd_e rfl) rfl rfl ⟨(iv_w iq_1_1_1 (zle_e rfl) (zle_e rfl)), ⟨r_2, hq_4, (Or.inr ⟨h_5, ⟨r_9, hq_11, (Or.inr ⟨h_12, ⟨r_16, hq_18, (Or.inr ⟨h_19, ⟨r_23, hq_25, (Or.inr ⟨h_26, ⟨r_30, hq_32, (Or.inr ⟨h_33, ⟨r_37, hq_39, (Or.inr ⟨h_40, ⟨r_44, hq_46, (Or.inl ⟨h_47, rfl⟩)⟩⟩)⟩⟩)⟩⟩)⟩⟩)⟩⟩)⟩⟩)⟩, rfl⟩
              · skip
                have iv_49 : IV r_44 0 0 := iv_meet iv_45 (iv_e h_47 iq_0_0_0) (zle_o rfl) (zle_o rfl)
                refine k_aload_n X dX9_isReserved_k1.2.2.1.1 0 rfl ?_
                refine k_ldcS (tx := "shows") X dX9_isReserved_k1.2.2.1.2 (by decide +kernel) (fun sr_50 hsr_50 => ?_)
                refine k_callVI (n := 1) (As := [.ref sr_50]) (st := []) X [(cO9_i1r1i2r1i1r2i4l1i2 h0 xtpd th xfn xfp tp xen nm nd xkd xsta xpo xva xle xtk xta), (cAB g tp 900 tpf)] [] [0, 1] [] (x_isX l g h0 sr_50 xtpd th xfn xfp tp xen nm nd xkd xsta xpo xva xle xtk xta tpf ("shows") (iv_w hv_xsta (zle_e rfl) (zle_e rfl)) hsr_50) dX9_isReserved_k1.2.2.2.1 mw252 mw253 mw254 mw15 mw255 rfl 9 rfl rfl 0 _ rfl yk_yX9_is_1 rfl (Nat.le_of_ble_eq_true rfl) (Nat.le_of_ble_eq_true rfl) (Nat.le_of_ble_eq_true rfl) (Nat.le_of_ble_eq_true rfl) (Nat.le_of_ble_eq_true rfl) rfl rfl (vnd_e rfl) rfl (vnd_e rfl) (dsj_e rfl) ?_
                rintro r_51 w ⟨iv_52, hq_53, rfl⟩
                refine k_ws [(cO9_i1r1i2r1i1r2i4l1i2 h0 xtpd th xfn xfp tp xen nm nd xkd xsta xpo xva xle xtk xta), (cAB g tp 900 tpf)] rfl ?_
                refine k_if_ne 109 X dX9_isReserved_k1.2.2.2.2 (jp_e rfl) (fun h_54 => ?_) (fun h_54 => ?_)
                · skip
                  have iv_55 : IV r_51 1 1 := iv_neL h_54 iv_52 iq_0_0_0 (zle_e rfl)
                  refine k_iconst (v := 1) X dX9_isReserved_k3.1.1 ic_1 ?_
                  refine k_goto 114 X dX9_isReserved_k3.1.2 (jp_e rfl) ?_
                  exact k_zret X hr (by first | rfl | decide) dX9_isReserved_k3.2.2 (Nat.le_of_ble_eq_true rfl) (Nat.le_of_ble_eq_true rfl) [0, 1] (vnd_e rfl) rfl rfl ⟨(iv_w iq_1_1_1 (zle_e rfl) (zle_e rfl)), ⟨r_2, hq_4, (Or.inr ⟨h_5, ⟨r_9, hq_11, (Or.inr ⟨h_12, ⟨r_16, hq_18, (Or.inr ⟨h_19, ⟨r_23, hq_25, (Or.inr ⟨h_26, ⟨r_30, hq_32, (Or.inr ⟨h_33, ⟨r_37, hq_39, (Or.inr ⟨h_40, ⟨r_44, hq_46, (Or.inr ⟨h_47, ⟨r_51, hq_53, (Or.inl ⟨h_54, rfl⟩)⟩⟩)⟩⟩)⟩⟩)⟩⟩)⟩⟩)⟩⟩)⟩⟩)⟩, rfl⟩
                · skip
                  have iv_56 : IV r_51 0 0 := iv_meet iv_52 (iv_e h_54 iq_0_0_0) (zle_o rfl) (zle_o rfl)
                  refine k_aload_n X dX9_isReserved_k2.1.1.1.1 0 rfl ?_
                  refine k_ldcS (tx := "boys") X dX9_isReserved_k2.1.1.1.2 (by decide +kernel) (fun sr_57 hsr_57 => ?_)
                  refine k_callVI (n := 1) (As := [.ref sr_57]) (st := []) X [(cO9_i1r1i2r1i1r2i4l1i2 h0 xtpd th xfn xfp tp xen nm nd xkd xsta xpo xva xle xtk xta), (cAB g tp 900 tpf)] [] [0, 1] [] (x_isX l g h0 sr_57 xtpd th xfn xfp tp xen nm nd xkd xsta xpo xva xle xtk xta tpf ("boys") (iv_w hv_xsta (zle_e rfl) (zle_e rfl)) hsr_57) dX9_isReserved_k2.1.1.2.1 mw252 mw253 mw254 mw15 mw255 rfl 9 rfl rfl 0 _ rfl yk_yX9_is_1 rfl (Nat.le_of_ble_eq_true rfl) (Nat.le_of_ble_eq_true rfl) (Nat.le_of_ble_eq_true rfl) (Nat.le_of_ble_eq_true rfl) (Nat.le_of_ble_eq_true rfl) rfl rfl (vnd_e rfl) rfl (vnd_e rfl) (dsj_e rfl) ?_
                  rintro r_58 w ⟨iv_59, hq_60, rfl⟩
                  refine k_ws [(cO9_i1r1i2r1i1r2i4l1i2 h0 xtpd th xfn xfp tp xen nm nd xkd xsta xpo xva xle xtk xta), (cAB g tp 900 tpf)] rfl ?_
                  refine k_if_ne 109 X dX9_isReserved_k2.1.1.2.2 (jp_e rfl) (fun h_61 => ?_) (fun h_61 => ?_)
                  · skip
                    have iv_62 : IV r_58 1 1 := iv_neL h_61 iv_59 iq_0_0_0 (zle_e rfl)
                    refine k_iconst (v := 1) X dX9_isReserved_k3.1.1 ic_1 ?_
                    refine k_goto 114 X dX9_isReserved_k3.1.2 (jp_e rfl) ?_
                    exact k_zret X hr (by first | rfl | decide) dX9_isReserved_k3.2.2 (Nat.le_of_ble_eq_true rfl) (Nat.le_of_ble_eq_true rfl) [0, 1] (vnd_e rfl) rfl rfl ⟨(iv_w iq_1_1_1 (zle_e rfl) (zle_e rfl)), ⟨r_2, hq_4, (Or.inr ⟨h_5, ⟨r_9, hq_11, (Or.inr ⟨h_12, ⟨r_16, hq_18, (Or.inr ⟨h_19, ⟨r_23, hq_25, (Or.inr ⟨h_26, ⟨r_30, hq_32, (Or.inr ⟨h_33, ⟨r_37, hq_39, (Or.inr ⟨h_40, ⟨r_44, hq_46, (Or.inr ⟨h_47, ⟨r_51, hq_53, (Or.inr ⟨h_54, ⟨r_58, hq_60, (Or.inl ⟨h_61, rfl⟩)⟩⟩)⟩⟩)⟩⟩)⟩⟩)⟩⟩)⟩⟩)⟩⟩)⟩⟩)⟩, rfl⟩
                  · skip
                    have iv_63 : IV r_58 0 0 := iv_meet iv_59 (iv_e h_61 iq_0_0_0) (zle_o rfl) (zle_o rfl)
                    refine k_aload_n X dX9_isReserved_k2.1.2.1.1 0 rfl ?_
                    refine k_ldcS (tx := "by") X dX9_isReserved_k2.1.2.1.2 (by decide +kernel) (fun sr_64 hsr_64 => ?_)
                    refine k_callVI (n := 1) (As := [.ref sr_64]) (st := []) X [(cO9_i1r1i2r1i1r2i4l1i2 h0 xtpd th xfn xfp tp xen nm nd xkd xsta xpo xva xle xtk xta), (cAB g tp 900 tpf)] [] [0, 1] [] (x_isX l g h0 sr_64 xtpd th xfn xfp tp xen nm nd xkd xsta xpo xva xle xtk xta tpf ("by") (iv_w hv_xsta (zle_e rfl) (zle_e rfl)) hsr_64) dX9_isReserved_k2.1.2.2.1 mw252 mw253 mw254 mw15 mw255 rfl 9 rfl rfl 0 _ rfl yk_yX9_is_1 rfl (Nat.le_of_ble_eq_true rfl) (Nat.le_of_ble_eq_true rfl) (Nat.le_of_ble_eq_true rfl) (Nat.le_of_ble_eq_true rfl) (Nat.le_of_ble_eq_true rfl) rfl rfl (vnd_e rfl) rfl (vnd_e rfl) (dsj_e rfl) ?_
                    rintro r_65 w ⟨iv_66, hq_67, rfl⟩
                    refine k_ws [(cO9_i1r1i2r1i1r2i4l1i2 h0 xtpd th xfn xfp tp xen nm nd xkd xsta xpo xva xle xtk xta), (cAB g tp 900 tpf)] rfl ?_
                    refine k_if_ne 109 X dX9_isReserved_k2.1.2.2.2 (jp_e rfl) (fun h_68 => ?_) (fun h_68 => ?_)
                    · skip
                      have iv_69 : IV r_65 1 1 := iv_neL h_68 iv_66 iq_0_0_0 (zle_e rfl)
                      refine k_iconst (v := 1) X dX9_isReserved_k3.1.1 ic_1 ?_
                      refine k_goto 114 X dX9_isReserved_k3.1.2 (jp_e rfl) ?_
                      exact k_zret X hr (by first | rfl | decide) dX9_isReserved_k3.2.2 (Nat.le_of_ble_eq_true rfl) (Nat.le_of_ble_eq_true rfl) [0, 1] (vnd_e rfl) rfl rfl ⟨(iv_w iq_1_1_1 (zle_e rfl) (zle_e rfl)), ⟨r_2, hq_4, (Or.inr ⟨h_5, ⟨r_9, hq_11, (Or.inr ⟨h_12, ⟨r_16, hq_18, (Or.inr ⟨h_19, ⟨r_23, hq_25, (Or.inr ⟨h_26, ⟨r_30, hq_32, (Or.inr ⟨h_33, ⟨r_37, hq_39, (Or.inr ⟨h_40, ⟨r_44, hq_46, (Or.inr ⟨h_47, ⟨r_51, hq_53, (Or.inr ⟨h_54, ⟨r_58, hq_60, (Or.inr ⟨h_61, ⟨r_65, hq_67, (Or.inl ⟨h_68, rfl⟩)⟩⟩)⟩⟩)⟩⟩)⟩⟩)⟩⟩)⟩⟩)⟩⟩)⟩⟩)⟩⟩)⟩, rfl⟩
                    · skip
                      have iv_70 : IV r_65 0 0 := iv_meet iv_66 (iv_e h_68 iq_0_0_0) (zle_o rfl) (zle_o rfl)
                      refine k_aload_n X dX9_isReserved_k2.2.1.1.1 0 rfl ?_
                      refine k_ldcS (tx := "seen") X dX9_isReserved_k2.2.1.1.2 (by decide +kernel) (fun sr_71 hsr_71 => ?_)
                      refine k_callVI (n := 1) (As := [.ref sr_71]) (st := []) X [(cO9_i1r1i2r1i1r2i4l1i2 h0 xtpd th xfn xfp tp xen nm nd xkd xsta xpo xva xle xtk xta), (cAB g tp 900 tpf)] [] [0, 1] [] (x_isX l g h0 sr_71 xtpd th xfn xfp tp xen nm nd xkd xsta xpo xva xle xtk xta tpf ("seen") (iv_w hv_xsta (zle_e rfl) (zle_e rfl)) hsr_71) dX9_isReserved_k2.2.1.2.1 mw252 mw253 mw254 mw15 mw255 rfl 9 rfl rfl 0 _ rfl yk_yX9_is_1 rfl (Nat.le_of_ble_eq_true rfl) (Nat.le_of_ble_eq_true rfl) (Nat.le_of_ble_eq_true rfl) (Nat.le_of_ble_eq_true rfl) (Nat.le_of_ble_eq_true rfl) rfl rfl (vnd_e rfl) rfl (vnd_e rfl) (dsj_e rfl) ?_
                      rintro r_72 w ⟨iv_73, hq_74, rfl⟩
                      refine k_ws [(cO9_i1r1i2r1i1r2i4l1i2 h0 xtpd th xfn xfp tp xen nm nd xkd xsta xpo xva xle xtk xta), (cAB g tp 900 tpf)] rfl ?_
                      refine k_if_ne 109 X dX9_isReserved_k2.2.1.2.2 (jp_e rfl) (fun h_75 => ?_) (fun h_75 => ?_)
                      · skip
                        have iv_76 : IV r_72 1 1 := iv_neL h_75 iv_73 iq_0_0_0 (zle_e rfl)
                        refine k_iconst (v := 1) X dX9_isReserved_k3.1.1 ic_1 ?_
                        refine k_goto 114 X dX9_isReserved_k3.1.2 (jp_e rfl) ?_
                        exact k_zret X hr (by first | rfl | decide) dX9_isReserved_k3.2.2 (Nat.le_of_ble_eq_true rfl) (Nat.le_of_ble_eq_true rfl) [0, 1] (vnd_e rfl) rfl rfl ⟨(iv_w iq_1_1_1 (zle_e rfl) (zle_e rfl)), ⟨r_2, hq_4, (Or.inr ⟨h_5, ⟨r_9, hq_11, (Or.inr ⟨h_12, ⟨r_16, hq_18, (Or.inr ⟨h_19, ⟨r_23, hq_25, (Or.inr ⟨h_26, ⟨r_30, hq_32, (Or.inr ⟨h_33, ⟨r_37, hq_39, (Or.inr ⟨h_40, ⟨r_44, hq_46, (Or.inr ⟨h_47, ⟨r_51, hq_53, (Or.inr ⟨h_54, ⟨r_58, hq_60, (Or.inr ⟨h_61, ⟨r_65, hq_67, (Or.inr ⟨h_68, ⟨r_72, hq_74, (Or.inl ⟨h_75, rfl⟩)⟩⟩)⟩⟩)⟩⟩)⟩⟩)⟩⟩)⟩⟩)⟩⟩)⟩⟩)⟩⟩)⟩⟩)⟩, rfl⟩
                      · skip
                        have iv_77 : IV r_72 0 0 := iv_meet iv_73 (iv_e h_75 iq_0_0_0) (zle_o rfl) (zle_o rfl)
                        refine k_aload_n X dX9_isReserved_k2.2.2.1.1 0 rfl ?_
                        refine k_ldcwS (tx := "scratch") X dX9_isReserved_k2.2.2.1.2 (by decide +kernel) (fun sr_78 hsr_78 => ?_)
                        refine k_callVI (n := 1) (As := [.ref sr_78]) (st := []) X [(cO9_i1r1i2r1i1r2i4l1i2 h0 xtpd th xfn xfp tp xen nm nd xkd xsta xpo xva xle xtk xta), (cAB g tp 900 tpf)] [] [0, 1] [] (x_isX l g h0 sr_78 xtpd th xfn xfp tp xen nm nd xkd xsta xpo xva xle xtk xta tpf ("scratch") (iv_w hv_xsta (zle_e rfl) (zle_e rfl)) hsr_78) dX9_isReserved_k2.2.2.2.1 mw252 mw253 mw254 mw15 mw255 rfl 9 rfl rfl 0 _ rfl yk_yX9_is_1 rfl (Nat.le_of_ble_eq_true rfl) (Nat.le_of_ble_eq_true rfl) (Nat.le_of_ble_eq_true rfl) (Nat.le_of_ble_eq_true rfl) (Nat.le_of_ble_eq_true rfl) rfl rfl (vnd_e rfl) rfl (vnd_e rfl) (dsj_e rfl) ?_
                        rintro r_79 w ⟨iv_80, hq_81, rfl⟩
                        refine k_ws [(cO9_i1r1i2r1i1r2i4l1i2 h0 xtpd th xfn xfp tp xen nm nd xkd xsta xpo xva xle xtk xta), (cAB g tp 900 tpf)] rfl ?_
                        refine k_if_eq 113 X dX9_isReserved_k2.2.2.2.2 (jp_e rfl) (fun h_82 => ?_) (fun h_82 => ?_)
                        · skip
                          have iv_83 : IV r_79 0 0 := iv_meet iv_80 (iv_e h_82 iq_0_0_0) (zle_o rfl) (zle_o rfl)
                          refine k_iconst (v := 0) X dX9_isReserved_k3.2.1 ic_0 ?_
                          exact k_zret X hr (by first | rfl | decide) dX9_isReserved_k3.2.2 (Nat.le_of_ble_eq_true rfl) (Nat.le_of_ble_eq_true rfl) [0, 1] (vnd_e rfl) rfl rfl ⟨(iv_w iq_0_0_0 (zle_e rfl) (zle_e rfl)), ⟨r_2, hq_4, (Or.inr ⟨h_5, ⟨r_9, hq_11, (Or.inr ⟨h_12, ⟨r_16, hq_18, (Or.inr ⟨h_19, ⟨r_23, hq_25, (Or.inr ⟨h_26, ⟨r_30, hq_32, (Or.inr ⟨h_33, ⟨r_37, hq_39, (Or.inr ⟨h_40, ⟨r_44, hq_46, (Or.inr ⟨h_47, ⟨r_51, hq_53, (Or.inr ⟨h_54, ⟨r_58, hq_60, (Or.inr ⟨h_61, ⟨r_65, hq_67, (Or.inr ⟨h_68, ⟨r_72, hq_74, (Or.inr ⟨h_75, ⟨r_79, hq_81, (Or.inl ⟨h_82, rfl⟩)⟩⟩)⟩⟩)⟩⟩)⟩⟩)⟩⟩)⟩⟩)⟩⟩)⟩⟩)⟩⟩)⟩⟩)⟩⟩)⟩, rfl⟩
                        · skip
                          have iv_84 : IV r_79 1 1 := iv_neL h_82 iv_80 iq_0_0_0 (zle_e rfl)
                          refine k_iconst (v := 1) X dX9_isReserved_k3.1.1 ic_1 ?_
                          refine k_goto 114 X dX9_isReserved_k3.1.2 (jp_e rfl) ?_
                          exact k_zret X hr (by first | rfl | decide) dX9_isReserved_k3.2.2 (Nat.le_of_ble_eq_true rfl) (Nat.le_of_ble_eq_true rfl) [0, 1] (vnd_e rfl) rfl rfl ⟨(iv_w iq_1_1_1 (zle_e rfl) (zle_e rfl)), ⟨r_2, hq_4, (Or.inr ⟨h_5, ⟨r_9, hq_11, (Or.inr ⟨h_12, ⟨r_16, hq_18, (Or.inr ⟨h_19, ⟨r_23, hq_25, (Or.inr ⟨h_26, ⟨r_30, hq_32, (Or.inr ⟨h_33, ⟨r_37, hq_39, (Or.inr ⟨h_40, ⟨r_44, hq_46, (Or.inr ⟨h_47, ⟨r_51, hq_53, (Or.inr ⟨h_54, ⟨r_58, hq_60, (Or.inr ⟨h_61, ⟨r_65, hq_67, (Or.inr ⟨h_68, ⟨r_72, hq_74, (Or.inr ⟨h_75, ⟨r_79, hq_81, (Or.inr ⟨h_82, rfl⟩)⟩⟩)⟩⟩)⟩⟩)⟩⟩)⟩⟩)⟩⟩)⟩⟩)⟩⟩)⟩⟩)⟩⟩)⟩⟩)⟩, rfl⟩


set_option maxHeartbeats 4000000 in
set_option maxRecDepth 100000 in
theorem x_kindOfManX (l : Launch) (g : Gx) (h0 : Nat) (xtpd : Int32) (th : Nat) (xfn : Int32) (xfp : Int32) (tp : Nat) (xen : Int32) (nm : Nat) (nd : Nat) (xkd : Int32) (xsta : Int32) (xpo : Int32) (xva : Int32) (xle : Int64) (xtk : Int32) (xta : Int32) (tpf : Nat → Int32) (hv_xsta : IV xsta 0 900) : cI l g yX9_kindOfMan cX9_kindOfMan 1 (some .int) 5 107 0 0 [.ref h0] [(cO9_i1r1i2r1i1r2i4l1i2 h0 xtpd th xfn xfp tp xen nm nd xkd xsta xpo xva xle xtk xta), (cAB g tp 900 tpf)] (fun r w => IV r (-1) 3 ∧ (R_x_kindOfManX xkd xsta xpo tpf r) ∧ w = [(cO9_i1r1i2r1i1r2i4l1i2 h0 xtpd th xfn xfp tp xen nm nd xkd xsta xpo xva xle xtk xta), (cAB g tp 900 tpf)]) := by
  refine cI.of (by decide) (Nat.le_of_ble_eq_true rfl) ?_
  intro p e s m args below meth c A X hr hi
  refine k_lveq [(0, .ref h0)] rfl ?_
  refine k_aload_n X dX9_kindOfMan_k0.1.1.1.1 0 rfl ?_
  refine k_ldcS (tx := "clean") X dX9_kindOfMan_k0.1.1.1.2 (by decide +kernel) (fun sr_1 hsr_1 => ?_)
  refine k_callVI (n := 1) (As := [.ref sr_1]) (st := []) X [(cO9_i1r1i2r1i1r2i4l1i2 h0 xtpd th xfn xfp tp xen nm nd xkd xsta xpo xva xle xtk xta), (cAB g tp 900 tpf)] [] [0, 1] [] (x_isX l g h0 sr_1 xtpd th xfn xfp tp xen nm nd xkd xsta xpo xva xle xtk xta tpf ("clean") (iv_w hv_xsta (zle_e rfl) (zle_e rfl)) hsr_1) dX9_kindOfMan_k0.1.1.2.1 mw252 mw253 mw254 mw15 mw255 rfl 9 rfl rfl 0 _ rfl yk_yX9_is_1 rfl (Nat.le_of_ble_eq_true rfl) (Nat.le_of_ble_eq_true rfl) (Nat.le_of_ble_eq_true rfl) (Nat.le_of_ble_eq_true rfl) (Nat.le_of_ble_eq_true rfl) rfl rfl (vnd_e rfl) rfl (vnd_e rfl) (dsj_e rfl) ?_
  rintro r_2 w ⟨iv_3, hq_4, rfl⟩
  refine k_ws [(cO9_i1r1i2r1i1r2i4l1i2 h0 xtpd th xfn xfp tp xen nm nd xkd xsta xpo xva xle xtk xta), (cAB g tp 900 tpf)] rfl ?_
  refine k_if_eq 11 X dX9_kindOfMan_k0.1.1.2.2 (jp_e rfl) (fun h_5 => ?_) (fun h_5 => ?_)
  · skip
    have iv_6 : IV r_2 0 0 := iv_meet iv_3 (iv_e h_5 iq_0_0_0) (zle_o rfl) (zle_o rfl)
    refine k_aload_n X dX9_kindOfMan_k0.1.2.2.1 0 rfl ?_
    refine k_ldcS (tx := "early") X dX9_kindOfMan_k0.1.2.2.2 (by decide +kernel) (fun sr_7 hsr_7 => ?_)
    refine k_callVI (n := 1) (As := [.ref sr_7]) (st := []) X [(cO9_i1r1i2r1i1r2i4l1i2 h0 xtpd th xfn xfp tp xen nm nd xkd xsta xpo xva xle xtk xta), (cAB g tp 900 tpf)] [] [0, 1] [] (x_isX l g h0 sr_7 xtpd th xfn xfp tp xen nm nd xkd xsta xpo xva xle xtk xta tpf ("early") (iv_w hv_xsta (zle_e rfl) (zle_e rfl)) hsr_7) dX9_kindOfMan_k0.2.1.1.1 mw252 mw253 mw254 mw15 mw255 rfl 9 rfl rfl 0 _ rfl yk_yX9_is_1 rfl (Nat.le_of_ble_eq_true rfl) (Nat.le_of_ble_eq_true rfl) (Nat.le_of_ble_eq_true rfl) (Nat.le_of_ble_eq_true rfl) (Nat.le_of_ble_eq_true rfl) rfl rfl (vnd_e rfl) rfl (vnd_e rfl) (dsj_e rfl) ?_
    rintro r_8 w ⟨iv_9, hq_10, rfl⟩
    refine k_ws [(cO9_i1r1i2r1i1r2i4l1i2 h0 xtpd th xfn xfp tp xen nm nd xkd xsta xpo xva xle xtk xta), (cAB g tp 900 tpf)] rfl ?_
    refine k_if_eq 22 X dX9_kindOfMan_k0.2.1.1.2 (jp_e rfl) (fun h_11 => ?_) (fun h_11 => ?_)
    · skip
      have iv_12 : IV r_8 0 0 := iv_meet iv_9 (iv_e h_11 iq_0_0_0) (zle_o rfl) (zle_o rfl)
      refine k_aload_n X dX9_kindOfMan_k0.2.2.1.1 0 rfl ?_
      refine k_ldcS (tx := "late") X dX9_kindOfMan_k0.2.2.1.2 (by decide +kernel) (fun sr_13 hsr_13 => ?_)
      refine k_callVI (n := 1) (As := [.ref sr_13]) (st := []) X [(cO9_i1r1i2r1i1r2i4l1i2 h0 xtpd th xfn xfp tp xen nm nd xkd xsta xpo xva xle xtk xta), (cAB g tp 900 tpf)] [] [0, 1] [] (x_isX l g h0 sr_13 xtpd th xfn xfp tp xen nm nd xkd xsta xpo xva xle xtk xta tpf ("late") (iv_w hv_xsta (zle_e rfl) (zle_e rfl)) hsr_13) dX9_kindOfMan_k0.2.2.2.1 mw252 mw253 mw254 mw15 mw255 rfl 9 rfl rfl 0 _ rfl yk_yX9_is_1 rfl (Nat.le_of_ble_eq_true rfl) (Nat.le_of_ble_eq_true rfl) (Nat.le_of_ble_eq_true rfl) (Nat.le_of_ble_eq_true rfl) (Nat.le_of_ble_eq_true rfl) rfl rfl (vnd_e rfl) rfl (vnd_e rfl) (dsj_e rfl) ?_
      rintro r_14 w ⟨iv_15, hq_16, rfl⟩
      refine k_ws [(cO9_i1r1i2r1i1r2i4l1i2 h0 xtpd th xfn xfp tp xen nm nd xkd xsta xpo xva xle xtk xta), (cAB g tp 900 tpf)] rfl ?_
      refine k_if_eq 33 X dX9_kindOfMan_k0.2.2.2.2 (jp_e rfl) (fun h_17 => ?_) (fun h_17 => ?_)
      · skip
        have iv_18 : IV r_14 0 0 := iv_meet iv_15 (iv_e h_17 iq_0_0_0) (zle_o rfl) (zle_o rfl)
        refine k_aload_n X dX9_kindOfMan_k1.1.2.1 0 rfl ?_
        refine k_ldcwS (tx := "misled") X dX9_kindOfMan_k1.1.2.2.1 (by decide +kernel) (fun sr_19 hsr_19 => ?_)
        refine k_callVI (n := 1) (As := [.ref sr_19]) (st := []) X [(cO9_i1r1i2r1i1r2i4l1i2 h0 xtpd th xfn xfp tp xen nm nd xkd xsta xpo xva xle xtk xta), (cAB g tp 900 tpf)] [] [0, 1] [] (x_isX l g h0 sr_19 xtpd th xfn xfp tp xen nm nd xkd xsta xpo xva xle xtk xta tpf ("misled") (iv_w hv_xsta (zle_e rfl) (zle_e rfl)) hsr_19) dX9_kindOfMan_k1.1.2.2.2 mw252 mw253 mw254 mw15 mw255 rfl 9 rfl rfl 0 _ rfl yk_yX9_is_1 rfl (Nat.le_of_ble_eq_true rfl) (Nat.le_of_ble_eq_true rfl) (Nat.le_of_ble_eq_true rfl) (Nat.le_of_ble_eq_true rfl) (Nat.le_of_ble_eq_true rfl) rfl rfl (vnd_e rfl) rfl (vnd_e rfl) (dsj_e rfl) ?_
        rintro r_20 w ⟨iv_21, hq_22, rfl⟩
        refine k_ws [(cO9_i1r1i2r1i1r2i4l1i2 h0 xtpd th xfn xfp tp xen nm nd xkd xsta xpo xva xle xtk xta), (cAB g tp 900 tpf)] rfl ?_
        refine k_if_eq 47 X dX9_kindOfMan_k1.2.1.1 (jp_e rfl) (fun h_23 => ?_) (fun h_23 => ?_)
        · skip
          have iv_24 : IV r_20 0 0 := iv_meet iv_21 (iv_e h_23 iq_0_0_0) (zle_o rfl) (zle_o rfl)
          refine k_iconst (v := -1) X dX9_kindOfMan_k1.2.2.2.1 ic_m1 ?_
          exact k_iret X hr dX9_kindOfMan_k1.2.2.2.2 (Nat.le_of_ble_eq_true rfl) (Nat.le_of_ble_eq_true rfl) [0, 1] (vnd_e rfl) rfl rfl ⟨(iv_w iq_m1_m1_m1 (zle_e rfl) (zle_e rfl)), ⟨r_2, hq_4, (Or.inl ⟨h_5, ⟨r_8, hq_10, (Or.inl ⟨h_11, ⟨r_14, hq_16, (Or.inl ⟨h_17, ⟨r_20, hq_22, (Or.inl ⟨h_23, rfl⟩)⟩⟩)⟩⟩)⟩⟩)⟩, rfl⟩
        · skip
          have iv_25 : IV r_20 1 1 := iv_neL h_23 iv_21 iq_0_0_0 (zle_e rfl)
          refine k_iconst (v := 3) X dX9_kindOfMan_k1.2.1.2 ic_3 ?_
          refine k_goto 48 X dX9_kindOfMan_k1.2.2.1 (jp_e rfl) ?_
          exact k_iret X hr dX9_kindOfMan_k1.2.2.2.2 (Nat.le_of_ble_eq_true rfl) (Nat.le_of_ble_eq_true rfl) [0, 1] (vnd_e rfl) rfl rfl ⟨(iv_w iq_3_3_3 (zle_e rfl) (zle_e rfl)), ⟨r_2, hq_4, (Or.inl ⟨h_5, ⟨r_8, hq_10, (Or.inl ⟨h_11, ⟨r_14, hq_16, (Or.inl ⟨h_17, ⟨r_20, hq_22, (Or.inr ⟨h_23, rfl⟩)⟩⟩)⟩⟩)⟩⟩)⟩, rfl⟩
      · skip
        have iv_26 : IV r_14 1 1 := iv_neL h_17 iv_15 iq_0_0_0 (zle_e rfl)
        refine k_iconst (v := 2) X dX9_kindOfMan_k1.1.1.1 ic_2 ?_
        exact k_iret X hr dX9_kindOfMan_k1.1.1.2 (Nat.le_of_ble_eq_true rfl) (Nat.le_of_ble_eq_true rfl) [0, 1] (vnd_e rfl) rfl rfl ⟨(iv_w iq_2_2_2 (zle_e rfl) (zle_e rfl)), ⟨r_2, hq_4, (Or.inl ⟨h_5, ⟨r_8, hq_10, (Or.inl ⟨h_11, ⟨r_14, hq_16, (Or.inr ⟨h_17, rfl⟩)⟩⟩)⟩⟩)⟩, rfl⟩
    · skip
      have iv_27 : IV r_8 1 1 := iv_neL h_11 iv_9 iq_0_0_0 (zle_e rfl)
      refine k_iconst (v := 1) X dX9_kindOfMan_k0.2.1.2.1 ic_1 ?_
      exact k_iret X hr dX9_kindOfMan_k0.2.1.2.2 (Nat.le_of_ble_eq_true rfl) (Nat.le_of_ble_eq_true rfl) [0, 1] (vnd_e rfl) rfl rfl ⟨(iv_w iq_1_1_1 (zle_e rfl) (zle_e rfl)), ⟨r_2, hq_4, (Or.inl ⟨h_5, ⟨r_8, hq_10, (Or.inr ⟨h_11, rfl⟩)⟩⟩)⟩, rfl⟩
  · skip
    have iv_28 : IV r_2 1 1 := iv_neL h_5 iv_3 iq_0_0_0 (zle_e rfl)
    refine k_iconst (v := 0) X dX9_kindOfMan_k0.1.2.1.1 ic_0 ?_
    exact k_iret X hr dX9_kindOfMan_k0.1.2.1.2 (Nat.le_of_ble_eq_true rfl) (Nat.le_of_ble_eq_true rfl) [0, 1] (vnd_e rfl) rfl rfl ⟨(iv_w iq_0_0_0 (zle_e rfl) (zle_e rfl)), ⟨r_2, hq_4, (Or.inr ⟨h_5, rfl⟩)⟩, rfl⟩


set_option maxHeartbeats 4000000 in
set_option maxRecDepth 100000 in
theorem x_isLabelX (l : Launch) (g : Gx) (h0 : Nat) (sa : Nat) (xtpd : Int32) (th : Nat) (xfn : Int32) (xfp : Int32) (tp : Nat) (xen : Int32) (nm : Nat) (nd : Nat) (xkd : Int32) (xsta : Int32) (xpo : Int32) (xva : Int32) (xle : Int64) (xtk : Int32) (xta : Int32) (tpf : Nat → Int32) (tx_sa : String) (hv_xen : IV xen 0 900) (hv_xsta : IV xsta 0 900) (hv_xpo : IV xpo 0 900) (hp_sa : LtS g sa tx_sa) : cI l g yX9_isLabel cX9_isLabel 2 (some .boolean) 5 107 0 0 [.ref h0, .ref sa] [(cO9_i1r1i2r1i1r2i4l1i2 h0 xtpd th xfn xfp tp xen nm nd xkd xsta xpo xva xle xtk xta), (cAB g tp 900 tpf)] (fun r w => ∃ (xfn2 : Int32) (xfp2 : Int32) (xkd2 : Int32) (xsta2 : Int32) (xpo2 : Int32) (xva2 : Int32) (xle2 : Int64), IV xsta2 0 900 ∧ IV xpo2 0 900 ∧ IV r 0 1 ∧ (R_x_isLabelX xfn xfp xen xkd xsta xpo xva xle tpf tx_sa xfn2 xfp2 xkd2 xsta2 xpo2 xva2 xle2 r) ∧ w = [(cO9_i1r1i2r1i1r2i4l1i2 h0 xtpd th xfn2 xfp2 tp xen nm nd xkd2 xsta2 xpo2 xva2 xle2 xtk xta), (cAB g tp 900 tpf)]) := by
  refine cI.of (by decide) (Nat.le_of_ble_eq_true rfl) ?_
  intro p e s m args below meth c A X hr hi
  refine k_lveq [(0, .ref h0), (1, .ref sa)] rfl ?_
  refine k_aload_n X dX9_isLabel_k0.1.1.1 0 rfl ?_
  refine k_aload_n X dX9_isLabel_k0.1.1.2.1 1 rfl ?_
  refine k_callVI (n := 1) (As := [.ref sa]) (st := []) X [(cO9_i1r1i2r1i1r2i4l1i2 h0 xtpd th xfn xfp tp xen nm nd xkd xsta xpo xva xle xtk xta), (cAB g tp 900 tpf)] [] [0, 1] [] (x_isX l g h0 sa xtpd th xfn xfp tp xen nm nd xkd xsta xpo xva xle xtk xta tpf tx_sa (iv_w hv_xsta (zle_e rfl) (zle_e rfl)) hp_sa) dX9_isLabel_k0.1.1.2.2 mw252 mw253 mw254 mw15 mw255 rfl 9 rfl rfl 0 _ rfl yk_yX9_is_1 rfl (Nat.le_of_ble_eq_true rfl) (Nat.le_of_ble_eq_true rfl) (Nat.le_of_ble_eq_true rfl) (Nat.le_of_ble_eq_true rfl) (Nat.le_of_ble_eq_true rfl) rfl rfl (vnd_e rfl) rfl (vnd_e rfl) (dsj_e rfl) ?_
  rintro r_1 w ⟨iv_2, hq_3, rfl⟩
  refine k_ws [(cO9_i1r1i2r1i1r2i4l1i2 h0 xtpd th xfn xfp tp xen nm nd xkd xsta xpo xva xle xtk xta), (cAB g tp 900 tpf)] rfl ?_
  refine k_if_ne 18 X dX9_isLabel_k0.1.2.1.1 (jp_e rfl) (fun h_4 => ?_) (fun h_4 => ?_)
  · skip
    have iv_5 : IV r_1 1 1 := iv_neL h_4 iv_2 iq_0_0_0 (zle_e rfl)
    refine k_aload_n X dX9_isLabel_k0.2.2.1.1 0 rfl ?_
    refine k_callVV (n := 0) (As := []) (st := []) X [(cO9_i1r1i2r1i1r2i4l1i2 h0 xtpd th xfn xfp tp xen nm nd xkd xsta xpo xva xle xtk xta), (cAB g tp 900 tpf)] [] [0, 1] [] (x_nextX l g h0 xtpd th xfn xfp tp xen nm nd xkd xsta xpo xva xle xtk xta tpf (iv_w hv_xen (zle_e rfl) (zle_e rfl)) (iv_w hv_xpo (zle_e rfl) (zle_e rfl))) dX9_isLabel_k0.2.2.1.2 mw237 mw238 mw239 mw15 mw240 rfl 9 rfl rfl 0 _ rfl yk_yX9_next_0 rfl (Nat.le_of_ble_eq_true rfl) (Nat.le_of_ble_eq_true rfl) (Nat.le_of_ble_eq_true rfl) (Nat.le_of_ble_eq_true rfl) (Nat.le_of_ble_eq_true rfl) rfl rfl (vnd_e rfl) rfl (vnd_e rfl) (dsj_e rfl) ?_
    rintro w ⟨xkd2_6, xsta2_7, xpo2_8, xva2_9, xle2_10, iv_12, iv_13, iv_14, hq_15, rfl⟩
    refine k_ws [(cO9_i1r1i2r1i1r2i4l1i2 h0 xtpd th xfn xfp tp xen nm nd xkd2_6 xsta2_7 xpo2_8 xva2_9 xle2_10 xtk xta), (cAB g tp 900 tpf)] rfl ?_
    refine k_iconst (v := 1) X dX9_isLabel_k0.2.2.2.1 ic_1 ?_
    exact k_zret X hr (by first | rfl | decide) dX9_isLabel_k0.2.2.2.2 (Nat.le_of_ble_eq_true rfl) (Nat.le_of_ble_eq_true rfl) [0, 1] (vnd_e rfl) rfl rfl (exI7 xfn xfp xkd2_6 xsta2_7 xpo2_8 xva2_9 xle2_10 ⟨(iv_w iv_12 (zle_e rfl) (zle_e rfl)), (iv_w iv_13 (zle_e rfl) (zle_e rfl)), (iv_w iq_1_1_1 (zle_e rfl) (zle_e rfl)), ⟨r_1, hq_3, (Or.inl ⟨h_4, (exI5 xkd2_6 xsta2_7 xpo2_8 xva2_9 xle2_10 ⟨hq_15, ⟨rfl, rfl, rfl, rfl, rfl, rfl, rfl, rfl⟩⟩)⟩)⟩, rfl⟩)
  · skip
    have iv_16 : IV r_1 0 0 := iv_meet iv_2 (iv_e h_4 iq_0_0_0) (zle_o rfl) (zle_o rfl)
    refine k_aload_n X dX9_isLabel_k0.1.2.1.2 0 rfl ?_
    refine k_iconst (v := 1) X dX9_isLabel_k0.1.2.2.1 ic_1 ?_
    refine k_aload_n X dX9_isLabel_k0.1.2.2.2 0 rfl ?_
    refine k_get (ci := 9) X inlX9 rfl 9 (nlt_e rfl) dX9_isLabel_k0.2.1.1 mw67 0 rfl rfl ?_
    refine k_callVI (n := 2) (As := [.int 1, .int xsta]) (st := []) X [(cO9_i1r1i2r1i1r2i4l1i2 h0 xtpd th xfn xfp tp xen nm nd xkd xsta xpo xva xle xtk xta), (cAB g tp 900 tpf)] [] [0, 1] [] (x_refuseAtX l g h0 1 xsta xtpd th xfn xfp tp xen nm nd xkd xsta xpo xva xle xtk xta tpf) dX9_isLabel_k0.2.1.2.1 mw309 mw310 mw311 mw15 mw312 rfl 9 rfl rfl 0 _ rfl yk_yX9_refuseAt_2 rfl (Nat.le_of_ble_eq_true rfl) (Nat.le_of_ble_eq_true rfl) (Nat.le_of_ble_eq_true rfl) (Nat.le_of_ble_eq_true rfl) (Nat.le_of_ble_eq_true rfl) rfl rfl (vnd_e rfl) rfl (vnd_e rfl) (dsj_e rfl) ?_
    rintro r_19 w ⟨xfn2_17, xfp2_18, iv_20, hq_21, rfl⟩
    refine k_ws [(cO9_i1r1i2r1i1r2i4l1i2 h0 xtpd th xfn2_17 xfp2_18 tp xen nm nd xkd xsta xpo xva xle xtk xta), (cAB g tp 900 tpf)] rfl ?_
    exact k_zret X hr (zn_b (iv_w iv_20 (zle_e rfl) (zle_e rfl))) dX9_isLabel_k0.2.1.2.2 (Nat.le_of_ble_eq_true rfl) (Nat.le_of_ble_eq_true rfl) [0, 1] (vnd_e rfl) rfl rfl (exI7 xfn2_17 xfp2_18 xkd xsta xpo xva xle ⟨(iv_w hv_xsta (zle_e rfl) (zle_e rfl)), (iv_w hv_xpo (zle_e rfl) (zle_e rfl)), (iv_w iv_20 (zle_e rfl) (zle_e rfl)), ⟨r_1, hq_3, (Or.inr ⟨h_4, ⟨xfn2_17, xfp2_18, r_19, hq_21, ⟨rfl, rfl, rfl, rfl, rfl, rfl, rfl, rfl⟩⟩⟩)⟩, rfl⟩)


set_option maxHeartbeats 4000000 in
set_option maxRecDepth 100000 in
theorem x_isWholeX (l : Launch) (g : Gx) (h0 : Nat) (p0 : Int32) (p1 : Int32) (xtpd : Int32) (th : Nat) (xfn : Int32) (xfp : Int32) (tp : Nat) (xen : Int32) (nm : Nat) (nd : Nat) (xkd : Int32) (xsta : Int32) (xpo : Int32) (xva : Int32) (xle : Int64) (xtk : Int32) (xta : Int32) (tpf : Nat → Int32) (hv_xen : IV xen 0 900) (hv_xsta : IV xsta 0 900) (hv_xpo : IV xpo 0 900) : cI l g yX9_isWhole cX9_isWhole 3 (some .boolean) 2 42 0 0 [.ref h0, .int p0, .int p1] [(cO9_i1r1i2r1i1r2i4l1i2 h0 xtpd th xfn xfp tp xen nm nd xkd xsta xpo xva xle xtk xta), (cAB g tp 900 tpf)] (fun r w => ∃ (xfn2 : Int32) (xfp2 : Int32) (xkd2 : Int32) (xsta2 : Int32) (xpo2 : Int32) (xva2 : Int32) (xle2 : Int64) (xtk2 : Int32) (xta2 : Int32), IV xsta2 0 900 ∧ IV xpo2 0 900 ∧ IV r 0 1 ∧ (R_x_isWholeX p0 p1 xfn xfp xen xkd xsta xpo xva xle xtk xta tpf xfn2 xfp2 xkd2 xsta2 xpo2 xva2 xle2 xtk2 xta2 r) ∧ w = [(cO9_i1r1i2r1i1r2i4l1i2 h0 xtpd th xfn2 xfp2 tp xen nm nd xkd2 xsta2 xpo2 xva2 xle2 xtk2 xta2), (cAB g tp 900 tpf)]) := by
  refine cI.of (by decide) (Nat.le_of_ble_eq_true rfl) ?_
  intro p e s m args below meth c A X hr hi
  refine k_lveq [(0, .ref h0), (1, .int p0), (2, .int p1)] rfl ?_
  refine k_aload_n X dX9_isWhole_k0.1.1.1.1 0 rfl ?_
  refine k_get (ci := 9) X inlX9 rfl 8 (nlt_e rfl) dX9_isWhole_k0.1.1.1.2 mw66 0 rfl rfl ?_
  refine k_iconst (v := 2) X dX9_isWhole_k0.1.1.2.1 ic_2 ?_
  refine k_ic_eq 18 X dX9_isWhole_k0.1.1.2.2 (jp_e rfl) (fun h_1 => ?_) (fun h_1 => ?_)
  · skip
    have iv_2 : IV xkd 2 2 := iv_meet (iv_any xkd) (iv_e h_1 iq_2_2_2) (zle_o rfl) (zle_o rfl)
    refine k_aload_n X dX9_isWhole_k0.2.1.2.1 0 rfl ?_
    refine k_get (ci := 9) X inlX9 rfl 11 (nlt_e rfl) dX9_isWhole_k0.2.1.2.2 mw69 0 rfl rfl ?_
    refine k_iload_n X dX9_isWhole_k0.2.2.1.1 1 rfl ?_
    refine k_ic_lt 34 X dX9_isWhole_k0.2.2.1.2 (jp_e rfl) (fun h_3 => ?_) (fun h_3 => ?_)
    · skip
      have j_4 : xva.toInt < p0.toInt := iv_lt h_3
      have iv_5 : IV xva (-2147483648) 2147483646 := iv_ltL (iv_lt h_3) (iv_any xva) (iv_any p0) (zle_e rfl)
      have iv_6 : IV p0 (-2147483647) 2147483647 := iv_ltR (iv_lt h_3) (iv_any xva) (iv_any p0) (zle_e rfl)
      refine k_aload_n X dX9_isWhole_k1.1.1.2.1 0 rfl ?_
      refine k_iconst (v := 4) X dX9_isWhole_k1.1.1.2.2 ic_4 ?_
      refine k_aload_n X dX9_isWhole_k1.1.2.1.1 0 rfl ?_
      refine k_get (ci := 9) X inlX9 rfl 9 (nlt_e rfl) dX9_isWhole_k1.1.2.1.2 mw67 0 rfl rfl ?_
      refine k_callVI (n := 2) (As := [.int 4, .int xsta]) (st := []) X [(cO9_i1r1i2r1i1r2i4l1i2 h0 xtpd th xfn xfp tp xen nm nd xkd xsta xpo xva xle xtk xta), (cAB g tp 900 tpf)] [] [0, 1] [] (x_refuseAtX l g h0 4 xsta xtpd th xfn xfp tp xen nm nd xkd xsta xpo xva xle xtk xta tpf) dX9_isWhole_k1.1.2.2.1 mw309 mw310 mw311 mw15 mw312 rfl 9 rfl rfl 0 _ rfl yk_yX9_refuseAt_2 rfl (Nat.le_of_ble_eq_true rfl) (Nat.le_of_ble_eq_true rfl) (Nat.le_of_ble_eq_true rfl) (Nat.le_of_ble_eq_true rfl) (Nat.le_of_ble_eq_true rfl) rfl rfl (vnd_e rfl) rfl (vnd_e rfl) (dsj_e rfl) ?_
      rintro r_9 w ⟨xfn2_7, xfp2_8, iv_10, hq_11, rfl⟩
      refine k_ws [(cO9_i1r1i2r1i1r2i4l1i2 h0 xtpd th xfn2_7 xfp2_8 tp xen nm nd xkd xsta xpo xva xle xtk xta), (cAB g tp 900 tpf)] rfl ?_
      exact k_zret X hr (zn_b (iv_w iv_10 (zle_e rfl) (zle_e rfl))) dX9_isWhole_k1.1.2.2.2 (Nat.le_of_ble_eq_true rfl) (Nat.le_of_ble_eq_true rfl) [0, 1] (vnd_e rfl) rfl rfl (exI9 xfn2_7 xfp2_8 xkd xsta xpo xva xle xtk xta ⟨(iv_w hv_xsta (zle_e rfl) (zle_e rfl)), (iv_w hv_xpo (zle_e rfl) (zle_e rfl)), (iv_w iv_10 (zle_e rfl) (zle_e rfl)), (Or.inl ⟨h_1, (Or.inl ⟨h_3, ⟨xfn2_7, xfp2_8, r_9, hq_11, ⟨rfl, rfl, rfl, rfl, rfl, rfl, rfl, rfl, rfl, rfl⟩⟩⟩)⟩), rfl⟩)
    · skip
      have j_12 : p0.toInt ≤ xva.toInt := iv_nlt h_3
      refine k_aload_n X dX9_isWhole_k0.2.2.2.1 0 rfl ?_
      refine k_get (ci := 9) X inlX9 rfl 11 (nlt_e rfl) dX9_isWhole_k0.2.2.2.2 mw69 0 rfl rfl ?_
      refine k_iload_n X dX9_isWhole_k1.1.1.1.1 2 rfl ?_
      refine k_ic_le 44 X dX9_isWhole_k1.1.1.1.2 (jp_e rfl) (fun h_13 => ?_) (fun h_13 => ?_)
      · skip
        have j_14 : xva.toInt ≤ p1.toInt := iv_le h_13
        refine k_aload_n X dX9_isWhole_k1.2.1.1.1 0 rfl ?_
        refine k_aload_n X dX9_isWhole_k1.2.1.1.2 0 rfl ?_
        refine k_get (ci := 9) X inlX9 rfl 11 (nlt_e rfl) dX9_isWhole_k1.2.1.2.1 mw69 0 rfl rfl ?_
        refine k_put (ci := 9) [(cO9_i1r1i2r1i1r2i4l1i2 h0 xtpd th xfn xfp tp xen nm nd xkd xsta xpo xva xle xva xta), (cAB g tp 900 tpf)] X inlX9 rfl tyX9_ok nmX9 13 (nlt_e rfl) rfl dX9_isWhole_k1.2.1.2.2 mw71 0 rfl rfl rfl (Nat.le_of_ble_eq_true rfl) rfl ?_
        refine k_aload_n X dX9_isWhole_k1.2.2.1.1 0 rfl ?_
        refine k_aload_n X dX9_isWhole_k1.2.2.1.2 0 rfl ?_
        refine k_get (ci := 9) X inlX9 rfl 9 (nlt_e rfl) dX9_isWhole_k1.2.2.2.1 mw67 0 rfl rfl ?_
        refine k_put (ci := 9) [(cO9_i1r1i2r1i1r2i4l1i2 h0 xtpd th xfn xfp tp xen nm nd xkd xsta xpo xva xle xva xsta), (cAB g tp 900 tpf)] X inlX9 rfl tyX9_ok nmX9 14 (nlt_e rfl) rfl dX9_isWhole_k1.2.2.2.2 mw72 0 rfl rfl rfl (Nat.le_of_ble_eq_true rfl) rfl ?_
        refine k_aload_n X dX9_isWhole_k2.1.1 0 rfl ?_
        refine k_callVV (n := 0) (As := []) (st := []) X [(cO9_i1r1i2r1i1r2i4l1i2 h0 xtpd th xfn xfp tp xen nm nd xkd xsta xpo xva xle xva xsta), (cAB g tp 900 tpf)] [] [0, 1] [] (x_nextX l g h0 xtpd th xfn xfp tp xen nm nd xkd xsta xpo xva xle xva xsta tpf (iv_w hv_xen (zle_e rfl) (zle_e rfl)) (iv_w hv_xpo (zle_e rfl) (zle_e rfl))) dX9_isWhole_k2.1.2 mw237 mw238 mw239 mw15 mw240 rfl 9 rfl rfl 0 _ rfl yk_yX9_next_0 rfl (Nat.le_of_ble_eq_true rfl) (Nat.le_of_ble_eq_true rfl) (Nat.le_of_ble_eq_true rfl) (Nat.le_of_ble_eq_true rfl) (Nat.le_of_ble_eq_true rfl) rfl rfl (vnd_e rfl) rfl (vnd_e rfl) (dsj_e rfl) ?_
        rintro w ⟨xkd2_15, xsta2_16, xpo2_17, xva2_18, xle2_19, iv_21, iv_22, iv_23, hq_24, rfl⟩
        refine k_ws [(cO9_i1r1i2r1i1r2i4l1i2 h0 xtpd th xfn xfp tp xen nm nd xkd2_15 xsta2_16 xpo2_17 xva2_18 xle2_19 xva xsta), (cAB g tp 900 tpf)] rfl ?_
        refine k_iconst (v := 1) X dX9_isWhole_k2.2.1 ic_1 ?_
        exact k_zret X hr (by first | rfl | decide) dX9_isWhole_k2.2.2 (Nat.le_of_ble_eq_true rfl) (Nat.le_of_ble_eq_true rfl) [0, 1] (vnd_e rfl) rfl rfl (exI9 xfn xfp xkd2_15 xsta2_16 xpo2_17 xva2_18 xle2_19 xva xsta ⟨(iv_w iv_21 (zle_e rfl) (zle_e rfl)), (iv_w iv_22 (zle_e rfl) (zle_e rfl)), (iv_w iq_1_1_1 (zle_e rfl) (zle_e rfl)), (Or.inl ⟨h_1, (Or.inr ⟨h_3, (Or.inl ⟨h_13, (exI5 xkd2_15 xsta2_16 xpo2_17 xva2_18 xle2_19 ⟨hq_24, ⟨rfl, rfl, rfl, rfl, rfl, rfl, rfl, rfl, rfl, rfl⟩⟩)⟩)⟩)⟩), rfl⟩)
      · skip
        have j_25 : p1.toInt < xva.toInt := iv_nle h_13
        have iv_26 : IV p1 (-2147483648) 2147483646 := iv_ltL (iv_nle h_13) (iv_any p1) (iv_any xva) (zle_e rfl)
        have iv_27 : IV xva (-2147483647) 2147483647 := iv_ltR (iv_nle h_13) (iv_any p1) (iv_any xva) (zle_e rfl)
        refine k_aload_n X dX9_isWhole_k1.1.1.2.1 0 rfl ?_
        refine k_iconst (v := 4) X dX9_isWhole_k1.1.1.2.2 ic_4 ?_
        refine k_aload_n X dX9_isWhole_k1.1.2.1.1 0 rfl ?_
        refine k_get (ci := 9) X inlX9 rfl 9 (nlt_e rfl) dX9_isWhole_k1.1.2.1.2 mw67 0 rfl rfl ?_
        refine k_callVI (n := 2) (As := [.int 4, .int xsta]) (st := []) X [(cO9_i1r1i2r1i1r2i4l1i2 h0 xtpd th xfn xfp tp xen nm nd xkd xsta xpo xva xle xtk xta), (cAB g tp 900 tpf)] [] [0, 1] [] (x_refuseAtX l g h0 4 xsta xtpd th xfn xfp tp xen nm nd xkd xsta xpo xva xle xtk xta tpf) dX9_isWhole_k1.1.2.2.1 mw309 mw310 mw311 mw15 mw312 rfl 9 rfl rfl 0 _ rfl yk_yX9_refuseAt_2 rfl (Nat.le_of_ble_eq_true rfl) (Nat.le_of_ble_eq_true rfl) (Nat.le_of_ble_eq_true rfl) (Nat.le_of_ble_eq_true rfl) (Nat.le_of_ble_eq_true rfl) rfl rfl (vnd_e rfl) rfl (vnd_e rfl) (dsj_e rfl) ?_
        rintro r_30 w ⟨xfn2_28, xfp2_29, iv_31, hq_32, rfl⟩
        refine k_ws [(cO9_i1r1i2r1i1r2i4l1i2 h0 xtpd th xfn2_28 xfp2_29 tp xen nm nd xkd xsta xpo xva xle xtk xta), (cAB g tp 900 tpf)] rfl ?_
        exact k_zret X hr (zn_b (iv_w iv_31 (zle_e rfl) (zle_e rfl))) dX9_isWhole_k1.1.2.2.2 (Nat.le_of_ble_eq_true rfl) (Nat.le_of_ble_eq_true rfl) [0, 1] (vnd_e rfl) rfl rfl (exI9 xfn2_28 xfp2_29 xkd xsta xpo xva xle xtk xta ⟨(iv_w hv_xsta (zle_e rfl) (zle_e rfl)), (iv_w hv_xpo (zle_e rfl) (zle_e rfl)), (iv_w iv_31 (zle_e rfl) (zle_e rfl)), (Or.inl ⟨h_1, (Or.inr ⟨h_3, (Or.inr ⟨h_13, ⟨xfn2_28, xfp2_29, r_30, hq_32, ⟨rfl, rfl, rfl, rfl, rfl, rfl, rfl, rfl, rfl, rfl⟩⟩⟩)⟩)⟩), rfl⟩)
  · skip
    refine k_aload_n X dX9_isWhole_k0.1.2.1.1 0 rfl ?_
    refine k_iconst (v := 1) X dX9_isWhole_k0.1.2.1.2 ic_1 ?_
    refine k_aload_n X dX9_isWhole_k0.1.2.2.1 0 rfl ?_
    refine k_get (ci := 9) X inlX9 rfl 9 (nlt_e rfl) dX9_isWhole_k0.1.2.2.2 mw67 0 rfl rfl ?_
    refine k_callVI (n := 2) (As := [.int 1, .int xsta]) (st := []) X [(cO9_i1r1i2r1i1r2i4l1i2 h0 xtpd th xfn xfp tp xen nm nd xkd xsta xpo xva xle xtk xta), (cAB g tp 900 tpf)] [] [0, 1] [] (x_refuseAtX l g h0 1 xsta xtpd th xfn xfp tp xen nm nd xkd xsta xpo xva xle xtk xta tpf) dX9_isWhole_k0.2.1.1.1 mw309 mw310 mw311 mw15 mw312 rfl 9 rfl rfl 0 _ rfl yk_yX9_refuseAt_2 rfl (Nat.le_of_ble_eq_true rfl) (Nat.le_of_ble_eq_true rfl) (Nat.le_of_ble_eq_true rfl) (Nat.le_of_ble_eq_true rfl) (Nat.le_of_ble_eq_true rfl) rfl rfl (vnd_e rfl) rfl (vnd_e rfl) (dsj_e rfl) ?_
    rintro r_35 w ⟨xfn2_33, xfp2_34, iv_36, hq_37, rfl⟩
    refine k_ws [(cO9_i1r1i2r1i1r2i4l1i2 h0 xtpd th xfn2_33 xfp2_34 tp xen nm nd xkd xsta xpo xva xle xtk xta), (cAB g tp 900 tpf)] rfl ?_
    exact k_zret X hr (zn_b (iv_w iv_36 (zle_e rfl) (zle_e rfl))) dX9_isWhole_k0.2.1.1.2 (Nat.le_of_ble_eq_true rfl) (Nat.le_of_ble_eq_true rfl) [0, 1] (vnd_e rfl) rfl rfl (exI9 xfn2_33 xfp2_34 xkd xsta xpo xva xle xtk xta ⟨(iv_w hv_xsta (zle_e rfl) (zle_e rfl)), (iv_w hv_xpo (zle_e rfl) (zle_e rfl)), (iv_w iv_36 (zle_e rfl) (zle_e rfl)), (Or.inr ⟨h_1, ⟨xfn2_33, xfp2_34, r_35, hq_37, ⟨rfl, rfl, rfl, rfl, rfl, rfl, rfl, rfl, rfl, rfl⟩⟩⟩), rfl⟩)


set_option maxHeartbeats 4000000 in
set_option maxRecDepth 100000 in
theorem x_findNameX (l : Launch) (g : Gx) (h0 : Nat) (xtpd : Int32) (th : Nat) (xfn : Int32) (xfp : Int32) (tp : Nat) (xen : Int32) (nm : Nat) (nd : Nat) (xkd : Int32) (xsta : Int32) (xpo : Int32) (xva : Int32) (xle : Int64) (xtk : Int32) (xta : Int32) (tpf : Nat → Int32) (nmf : Nat → Int64) (ndc : Nat) (ndn : Int32) (ndf : Nat → Int32) : cI l g yX9_findName cX9_findName 2 (some .int) 0 0 0 0 [.ref h0] [(cO9_i1r1i2r1i1r2i4l1i2 h0 xtpd th xfn xfp tp xen nm nd xkd xsta xpo xva xle xtk xta), (cAB g tp 900 tpf), (cAJ g nm 16 nmf), (cO8_iiri nd 16 2 ndc ndn), (cAI g ndc 32 ndf)] (fun r w => (R_x_findNameX xle nmf ndn r) ∧ w = [(cO9_i1r1i2r1i1r2i4l1i2 h0 xtpd th xfn xfp tp xen nm nd xkd xsta xpo xva xle xtk xta), (cAB g tp 900 tpf), (cAJ g nm 16 nmf), (cO8_iiri nd 16 2 ndc ndn), (cAI g ndc 32 ndf)]) := by
  refine cI.of (by decide) (Nat.le_of_ble_eq_true rfl) ?_
  intro p e s m args below meth c A X hr hi
  refine k_lveq [(0, .ref h0)] rfl ?_
  refine k_iconst (v := 0) X dX9_findName_k0.1.1.1.1 ic_0 ?_
  refine k_istore_n [(1, .int 0), (0, .ref h0)] X dX9_findName_k0.1.1.1.2 (nlt_e rfl) rfl ?_
  refine (fun hL : ∀ (nn_3 : Nat) (u_1 : Int32), (ndn.toInt - u_1.toInt).toNat = nn_3 → (IV u_1 0 255) → (∀ (r : Int32), (∃ n_0 : Nat, R_x_findNameX_L0 xle nmf ndn r (r = (-1)) (r = (-1)) n_0 u_1) → R_x_findNameX xle nmf ndn r) → Wk p l e _ s m args below meth c _ A g _ _ _ [(cO9_i1r1i2r1i1r2i4l1i2 h0 xtpd th xfn xfp tp xen nm nd xkd xsta xpo xva xle xtk xta), (cAB g tp 900 tpf), (cAJ g nm 16 nmf), (cO8_iiri nd 16 2 ndc ndn), (cAI g ndc 32 ndf)] [(1, .int u_1), (0, .ref h0)] 2 [] => hL _ 0 rfl (iv_w iq_0_0_0 (zle_e rfl) (zle_e rfl)) (fun r h => h)) ?_
  refine fun nn_3 => Nat.strongRecOn nn_3 (fun nn_3 ih_5 => ?_)
  intro u_1 hm_4 hv_2 KH_0
  refine k_iload_n X dX9_findName_k0.1.1.2.1 0 rfl ?_
  refine k_aload_n X dX9_findName_k0.1.1.2.2 1 rfl ?_
  refine k_get (ci := 9) X inlX9 rfl 7 (nlt_e rfl) dX9_findName_k0.1.2.1.1 mw65 0 rfl rfl ?_
  refine k_get (ci := 8) X inlX8 rfl 3 (nlt_e rfl) dX9_findName_k0.1.2.1.2 mw251 3 rfl rfl ?_
  refine k_ic_ge 44 X dX9_findName_k0.1.2.2.1 (jp_e rfl) (fun h_6 => ?_) (fun h_6 => ?_)
  · skip
    have j_7 : ndn.toInt ≤ u_1.toInt := iv_le h_6
    have iv_8 : IV ndn (-2147483648) 255 := iv_leL (iv_le h_6) (iv_any ndn) hv_2 (zle_e rfl)
    refine k_iconst (v := -1) X dX9_findName_k1.2.2.2.1 ic_m1 ?_
    exact k_iret X hr dX9_findName_k1.2.2.2.2 (Nat.le_of_ble_eq_true rfl) (Nat.le_of_ble_eq_true rfl) [0, 1, 2, 3, 4] (vnd_e rfl) rfl rfl ⟨(KH_0 _ ⟨0 + 1, (Or.inl ⟨h_6, rfl⟩)⟩), rfl⟩
  · skip
    have j_9 : u_1.toInt < ndn.toInt := iv_nle h_6
    have iv_10 : IV ndn 1 2147483647 := iv_ltR (iv_nle h_6) hv_2 (iv_any ndn) (zle_e rfl)
    refine k_iload_n X dX9_findName_k0.1.2.2.2 0 rfl ?_
    refine k_aload_n X dX9_findName_k0.2.1.1.1 1 rfl ?_
    refine k_get (ci := 9) X inlX9 rfl 6 (nlt_e rfl) dX9_findName_k0.2.1.1.2 mw61 0 rfl rfl ?_
    refine k_alen 16 2 X dX9_findName_k0.2.1.2.1 2 rfl rfl (by show Int32.ofNat 16 = 16; decide) ?_
    refine k_ic_ge 44 X dX9_findName_k0.2.1.2.2 (jp_e rfl) (fun h_11 => ?_) (fun h_11 => ?_)
    · skip
      have j_12 : 16 ≤ u_1.toInt := iv_le h_11
      have iv_13 : IV u_1 16 255 := iv_leR (iv_le h_11) iq_16_16_16 hv_2 (zle_e rfl)
      refine k_iconst (v := -1) X dX9_findName_k1.2.2.2.1 ic_m1 ?_
      exact k_iret X hr dX9_findName_k1.2.2.2.2 (Nat.le_of_ble_eq_true rfl) (Nat.le_of_ble_eq_true rfl) [0, 1, 2, 3, 4] (vnd_e rfl) rfl rfl ⟨(KH_0 _ ⟨0 + 1, (Or.inr ⟨h_6, (Or.inl ⟨h_11, rfl⟩)⟩)⟩), rfl⟩
    · skip
      have j_14 : u_1.toInt < 16 := iv_nle h_11
      have iv_15 : IV u_1 0 15 := iv_ltL (iv_nle h_11) hv_2 iq_16_16_16 (zle_e rfl)
      refine k_aload_n X dX9_findName_k0.2.2.1.1 1 rfl ?_
      refine k_get (ci := 9) X inlX9 rfl 6 (nlt_e rfl) dX9_findName_k0.2.2.1.2 mw61 0 rfl rfl ?_
      refine k_iload_n X dX9_findName_k0.2.2.2.1 0 rfl ?_
      refine k_lald X dX9_findName_k0.2.2.2.2 2 rfl (iv_in iv_15 (zle_e rfl) (zle_l rfl)) ?_
      refine k_nmL (fun y_16 ey_16 => ?_)
      refine k_aload_n X dX9_findName_k1.1.1.1 1 rfl ?_
      refine k_get (ci := 9) X inlX9 rfl 12 (nlt_e rfl) dX9_findName_k1.1.1.2 mw70 0 rfl rfl ?_
      refine k_lcmp X dX9_findName_k1.1.2.1 ?_
      refine k_nm (fun z_17 ez_17 => ?_)
      refine k_if_ne 38 X dX9_findName_k1.1.2.2.1 (jp_e rfl) (fun h_18 => ?_) (fun h_18 => ?_)
      · skip
        obtain ⟨z_19, ez_19⟩ : ∃ y : Int32, u_1 + Int32.ofInt 1 = y := ⟨_, rfl⟩
        refine k_iinc z_19 [(1, .int z_19), (0, .ref h0)] 0 X dX9_findName_k1.2.1.2 rfl ez_19 (nlt_e rfl) rfl ?_
        have i_20 : z_19.toInt = u_1.toInt + 1 := in_inc ez_19 (oin_e rfl) iv_15 (zle_e rfl) (zle_e rfl)
        have iv_21 : IV z_19 1 16 := iz1 i_20 iv_15 (zle_e rfl) (zle_e rfl)
        refine k_goto 2 X dX9_findName_k1.2.2.1 (jp_e rfl) ?_
        exact ih_5 _ (by omega) z_19 rfl (iv_w iv_21 (zle_e rfl) (zle_e rfl)) (fun r h => h.elim (fun n_0 q => (KH_0 _ ⟨n_0 + 1, (Or.inr ⟨h_6, (Or.inr ⟨h_11, ⟨y_16, ey_16, ⟨z_17, ez_17, (Or.inl ⟨h_18, ⟨z_19, ez_19, q⟩⟩)⟩⟩⟩)⟩)⟩)))
      · skip
        have iv_22 : IV z_17 0 0 := iv_meet (iv_any z_17) (iv_e h_18 iq_0_0_0) (zle_o rfl) (zle_o rfl)
        refine k_iload_n X dX9_findName_k1.1.2.2.2 0 rfl ?_
        exact k_iret X hr dX9_findName_k1.2.1.1 (Nat.le_of_ble_eq_true rfl) (Nat.le_of_ble_eq_true rfl) [0, 1, 2, 3, 4] (vnd_e rfl) rfl rfl ⟨(KH_0 _ ⟨0 + 1, (Or.inr ⟨h_6, (Or.inr ⟨h_11, ⟨y_16, ey_16, ⟨z_17, ez_17, (Or.inr ⟨h_18, rfl⟩)⟩⟩⟩)⟩)⟩), rfl⟩


set_option maxHeartbeats 4000000 in
set_option maxRecDepth 100000 in
theorem x_isNewNameX (l : Launch) (g : Gx) (h0 : Nat) (p0 : Int32) (p1 : Int32) (xtpd : Int32) (th : Nat) (xfn : Int32) (xfp : Int32) (tp : Nat) (xen : Int32) (nm : Nat) (nd : Nat) (xkd : Int32) (xsta : Int32) (xpo : Int32) (xva : Int32) (xle : Int64) (xtk : Int32) (xta : Int32) (tpf : Nat → Int32) (nmf : Nat → Int64) (ndc : Nat) (ndn : Int32) (ndf : Nat → Int32) (hv_xen : IV xen 0 900) (hv_xsta : IV xsta 0 900) (hv_xpo : IV xpo 0 900) : cI l g yX9_isNewName cX9_isNewName 4 (some .boolean) 6 127 0 0 [.ref h0, .int p0, .int p1] [(cO9_i1r1i2r1i1r2i4l1i2 h0 xtpd th xfn xfp tp xen nm nd xkd xsta xpo xva xle xtk xta), (cAB g tp 900 tpf), (cAJ g nm 16 nmf), (cO8_iiri nd 16 2 ndc ndn), (cAI g ndc 32 ndf)] (fun r w => ∃ (xfn2 : Int32) (xfp2 : Int32) (xkd2 : Int32) (xsta2 : Int32) (xpo2 : Int32) (xva2 : Int32) (xle2 : Int64) (nmfg : Nat → Int64) (ndfg : Nat → Int32) (ndnk : Int32), IV xsta2 0 900 ∧ IV xpo2 0 900 ∧ IV r 0 1 ∧ (R_x_isNewNameX p0 p1 xfn xfp xen xkd xsta xpo xva xle tpf nmf ndn ndf xfn2 xfp2 xkd2 xsta2 xpo2 xva2 xle2 nmfg ndfg ndnk r) ∧ w = [(cO9_i1r1i2r1i1r2i4l1i2 h0 xtpd th xfn2 xfp2 tp xen nm nd xkd2 xsta2 xpo2 xva2 xle2 xtk xta), (cAB g tp 900 tpf), (cAJ g nm 16 nmfg), (cO8_iiri nd 16 2 ndc ndnk), (cAI g ndc 32 ndfg)]) := by
  refine cI.of (by decide) (Nat.le_of_ble_eq_true rfl) ?_
  intro p e s m args below meth c A X hr hi
  refine k_lveq [(0, .ref h0), (1, .int p0), (2, .int p1)] rfl ?_
  refine k_aload_n X dX9_isNewName_k0.1.1.1.1 0 rfl ?_
  refine k_get (ci := 9) X inlX9 rfl 8 (nlt_e rfl) dX9_isNewName_k0.1.1.1.2 mw66 0 rfl rfl ?_
  refine k_iconst (v := 1) X dX9_isNewName_k0.1.1.2.1 ic_1 ?_
  refine k_ic_ne 15 X dX9_isNewName_k0.1.1.2.2 (jp_e rfl) (fun h_1 => ?_) (fun h_1 => ?_)
  · skip
    refine k_aload_n X dX9_isNewName_k0.1.2.2.2 0 rfl ?_
    refine k_iconst (v := 1) X dX9_isNewName_k0.2.1.1.1 ic_1 ?_
    refine k_aload_n X dX9_isNewName_k0.2.1.1.2 0 rfl ?_
    refine k_get (ci := 9) X inlX9 rfl 9 (nlt_e rfl) dX9_isNewName_k0.2.1.2.1 mw67 0 rfl rfl ?_
    refine k_callVI (n := 2) (As := [.int 1, .int xsta]) (st := []) X [(cO9_i1r1i2r1i1r2i4l1i2 h0 xtpd th xfn xfp tp xen nm nd xkd xsta xpo xva xle xtk xta), (cAB g tp 900 tpf)] [(cAJ g nm 16 nmf), (cO8_iiri nd 16 2 ndc ndn), (cAI g ndc 32 ndf)] [0, 1] [2, 3, 4] (x_refuseAtX l g h0 1 xsta xtpd th xfn xfp tp xen nm nd xkd xsta xpo xva xle xtk xta tpf) dX9_isNewName_k0.2.1.2.2 mw309 mw310 mw311 mw15 mw312 rfl 9 rfl rfl 0 _ rfl yk_yX9_refuseAt_2 rfl (Nat.le_of_ble_eq_true rfl) (Nat.le_of_ble_eq_true rfl) (Nat.le_of_ble_eq_true rfl) (Nat.le_of_ble_eq_true rfl) (Nat.le_of_ble_eq_true rfl) rfl rfl (vnd_e rfl) rfl (vnd_e rfl) (dsj_e rfl) ?_
    rintro r_4 w ⟨xfn2_2, xfp2_3, iv_5, hq_6, rfl⟩
    refine k_ws [(cAJ g nm 16 nmf), (cO8_iiri nd 16 2 ndc ndn), (cAI g ndc 32 ndf), (cO9_i1r1i2r1i1r2i4l1i2 h0 xtpd th xfn2_2 xfp2_3 tp xen nm nd xkd xsta xpo xva xle xtk xta), (cAB g tp 900 tpf)] rfl ?_
    exact k_zret X hr (zn_b (iv_w iv_5 (zle_e rfl) (zle_e rfl))) dX9_isNewName_k0.2.2.1.1 (Nat.le_of_ble_eq_true rfl) (Nat.le_of_ble_eq_true rfl) [3, 4, 0, 1, 2] (vnd_e rfl) rfl rfl (exI10 xfn2_2 xfp2_3 xkd xsta xpo xva xle nmf ndf ndn ⟨(iv_w hv_xsta (zle_e rfl) (zle_e rfl)), (iv_w hv_xpo (zle_e rfl) (zle_e rfl)), (iv_w iv_5 (zle_e rfl) (zle_e rfl)), (Or.inl ⟨h_1, ⟨xfn2_2, xfp2_3, r_4, hq_6, ⟨rfl, rfl, rfl, rfl, rfl, rfl, rfl, rfl, rfl, rfl, rfl⟩⟩⟩), rfl⟩)
  · skip
    have iv_7 : IV xkd 1 1 := iv_meet (iv_any xkd) (iv_e h_1 iq_1_1_1) (zle_o rfl) (zle_o rfl)
    refine k_aload_n X dX9_isNewName_k0.1.2.1.1 0 rfl ?_
    refine k_callVI (n := 0) (As := []) (st := []) X [(cO9_i1r1i2r1i1r2i4l1i2 h0 xtpd th xfn xfp tp xen nm nd xkd xsta xpo xva xle xtk xta), (cAB g tp 900 tpf)] [(cAJ g nm 16 nmf), (cO8_iiri nd 16 2 ndc ndn), (cAI g ndc 32 ndf)] [0, 1] [2, 3, 4] (x_isReservedX l g h0 xtpd th xfn xfp tp xen nm nd xkd xsta xpo xva xle xtk xta tpf (iv_w hv_xsta (zle_e rfl) (zle_e rfl))) dX9_isNewName_k0.1.2.1.2 mw329 mw330 mw331 mw15 mw332 rfl 9 rfl rfl 0 _ rfl yk_yX9_isReserved_0 rfl (Nat.le_of_ble_eq_true rfl) (Nat.le_of_ble_eq_true rfl) (Nat.le_of_ble_eq_true rfl) (Nat.le_of_ble_eq_true rfl) (Nat.le_of_ble_eq_true rfl) rfl rfl (vnd_e rfl) rfl (vnd_e rfl) (dsj_e rfl) ?_
    rintro r_8 w ⟨iv_9, hq_10, rfl⟩
    refine k_ws [(cAJ g nm 16 nmf), (cO8_iiri nd 16 2 ndc ndn), (cAI g ndc 32 ndf), (cO9_i1r1i2r1i1r2i4l1i2 h0 xtpd th xfn xfp tp xen nm nd xkd xsta xpo xva xle xtk xta), (cAB g tp 900 tpf)] rfl ?_
    refine k_if_eq 25 X dX9_isNewName_k0.1.2.2.1 (jp_e rfl) (fun h_11 => ?_) (fun h_11 => ?_)
    · skip
      have iv_12 : IV r_8 0 0 := iv_meet iv_9 (iv_e h_11 iq_0_0_0) (zle_o rfl) (zle_o rfl)
      refine k_aload_n X dX9_isNewName_k0.2.2.1.2 0 rfl ?_
      refine k_callVI (n := 0) (As := []) (st := []) X [(cO9_i1r1i2r1i1r2i4l1i2 h0 xtpd th xfn xfp tp xen nm nd xkd xsta xpo xva xle xtk xta), (cAB g tp 900 tpf), (cAJ g nm 16 nmf), (cO8_iiri nd 16 2 ndc ndn), (cAI g ndc 32 ndf)] [] [3, 4, 0, 1, 2] [] (x_findNameX l g h0 xtpd th xfn xfp tp xen nm nd xkd xsta xpo xva xle xtk xta tpf nmf ndc ndn ndf) dX9_isNewName_k0.2.2.2.1 mw351 mw352 mw353 mw15 mw354 rfl 9 rfl rfl 0 _ rfl yk_yX9_findName_0 rfl (Nat.le_of_ble_eq_true rfl) (Nat.le_of_ble_eq_true rfl) (Nat.le_of_ble_eq_true rfl) (Nat.le_of_ble_eq_true rfl) (Nat.le_of_ble_eq_true rfl) rfl rfl (vnd_e rfl) rfl (vnd_e rfl) (dsj_e rfl) ?_
      rintro r_13 w ⟨hq_14, rfl⟩
      refine k_ws [(cO9_i1r1i2r1i1r2i4l1i2 h0 xtpd th xfn xfp tp xen nm nd xkd xsta xpo xva xle xtk xta), (cAB g tp 900 tpf), (cAJ g nm 16 nmf), (cO8_iiri nd 16 2 ndc ndn), (cAI g ndc 32 ndf)] rfl ?_
      refine k_if_lt 42 X dX9_isNewName_k0.2.2.2.2 (jp_e rfl) (fun h_15 => ?_) (fun h_15 => ?_)
      · skip
        have j_16 : r_13.toInt < 0 := iv_lt h_15
        have iv_17 : IV r_13 (-2147483648) (-1) := iv_ltL (iv_lt h_15) (iv_any r_13) iq_0_0_0 (zle_e rfl)
        refine k_aload_n X dX9_isNewName_k1.1.2.2.1 0 rfl ?_
        refine k_get (ci := 9) X inlX9 rfl 7 (nlt_e rfl) dX9_isNewName_k1.1.2.2.2 mw65 0 rfl rfl ?_
        refine k_get (ci := 8) X inlX8 rfl 3 (nlt_e rfl) dX9_isNewName_k1.2.1.1.1 mw251 3 rfl rfl ?_
        refine k_istore_n [(3, .int ndn), (0, .ref h0), (1, .int p0), (2, .int p1)] X dX9_isNewName_k1.2.1.1.2 (nlt_e rfl) rfl ?_
        refine k_iload_n X dX9_isNewName_k1.2.1.2.1 0 rfl ?_
        refine k_if_lt 83 X dX9_isNewName_k1.2.1.2.2 (jp_e rfl) (fun h_18 => ?_) (fun h_18 => ?_)
        · skip
          have j_19 : ndn.toInt < 0 := iv_lt h_18
          have iv_20 : IV ndn (-2147483648) (-1) := iv_ltL (iv_lt h_18) (iv_any ndn) iq_0_0_0 (zle_e rfl)
          refine k_aload_n X dX9_isNewName_k2.2.2.1.2 1 rfl ?_
          refine k_callVV (n := 0) (As := []) (st := []) X [(cO9_i1r1i2r1i1r2i4l1i2 h0 xtpd th xfn xfp tp xen nm nd xkd xsta xpo xva xle xtk xta), (cAB g tp 900 tpf)] [(cAJ g nm 16 nmf), (cO8_iiri nd 16 2 ndc ndn), (cAI g ndc 32 ndf)] [0, 1] [2, 3, 4] (x_nextX l g h0 xtpd th xfn xfp tp xen nm nd xkd xsta xpo xva xle xtk xta tpf (iv_w hv_xen (zle_e rfl) (zle_e rfl)) (iv_w hv_xpo (zle_e rfl) (zle_e rfl))) dX9_isNewName_k2.2.2.2.1 mw237 mw238 mw239 mw15 mw240 rfl 9 rfl rfl 0 _ rfl yk_yX9_next_0 rfl (Nat.le_of_ble_eq_true rfl) (Nat.le_of_ble_eq_true rfl) (Nat.le_of_ble_eq_true rfl) (Nat.le_of_ble_eq_true rfl) (Nat.le_of_ble_eq_true rfl) rfl rfl (vnd_e rfl) rfl (vnd_e rfl) (dsj_e rfl) ?_
          rintro w ⟨xkd2_21, xsta2_22, xpo2_23, xva2_24, xle2_25, iv_27, iv_28, iv_29, hq_30, rfl⟩
          refine k_ws [(cAJ g nm 16 nmf), (cO8_iiri nd 16 2 ndc ndn), (cAI g ndc 32 ndf), (cO9_i1r1i2r1i1r2i4l1i2 h0 xtpd th xfn xfp tp xen nm nd xkd2_21 xsta2_22 xpo2_23 xva2_24 xle2_25 xtk xta), (cAB g tp 900 tpf)] rfl ?_
          refine k_iconst (v := 1) X dX9_isNewName_k2.2.2.2.2 ic_1 ?_
          exact k_zret X hr (by first | rfl | decide) dX9_isNewName_k3 (Nat.le_of_ble_eq_true rfl) (Nat.le_of_ble_eq_true rfl) [3, 4, 0, 1, 2] (vnd_e rfl) rfl rfl (exI10 xfn xfp xkd2_21 xsta2_22 xpo2_23 xva2_24 xle2_25 nmf ndf ndn ⟨(iv_w iv_27 (zle_e rfl) (zle_e rfl)), (iv_w iv_28 (zle_e rfl) (zle_e rfl)), (iv_w iq_1_1_1 (zle_e rfl) (zle_e rfl)), (Or.inr ⟨h_1, ⟨r_8, hq_10, (Or.inl ⟨h_11, ⟨r_13, hq_14, (Or.inl ⟨h_15, (Or.inl ⟨h_18, (exI5 xkd2_21 xsta2_22 xpo2_23 xva2_24 xle2_25 ⟨hq_30, ⟨rfl, rfl, rfl, rfl, rfl, rfl, rfl, rfl, rfl, rfl, rfl⟩⟩)⟩)⟩)⟩⟩)⟩⟩), rfl⟩)
        · skip
          have j_31 : 0 ≤ ndn.toInt := iv_nlt h_18
          have iv_32 : IV ndn 0 2147483647 := iv_leR (iv_nlt h_18) iq_0_0_0 (iv_any ndn) (zle_e rfl)
          refine k_iload_n X dX9_isNewName_k1.2.2.1.1 0 rfl ?_
          refine k_aload_n X dX9_isNewName_k1.2.2.1.2 1 rfl ?_
          refine k_get (ci := 9) X inlX9 rfl 6 (nlt_e rfl) dX9_isNewName_k1.2.2.2.1 mw61 0 rfl rfl ?_
          refine k_alen 16 2 X dX9_isNewName_k1.2.2.2.2 2 rfl rfl (by show Int32.ofNat 16 = 16; decide) ?_
          refine k_ic_ge 83 X dX9_isNewName_k2.1.1.1.1 (jp_e rfl) (fun h_33 => ?_) (fun h_33 => ?_)
          · skip
            have j_34 : 16 ≤ ndn.toInt := iv_le h_33
            have iv_35 : IV ndn 16 2147483647 := iv_leR (iv_le h_33) iq_16_16_16 iv_32 (zle_e rfl)
            refine k_aload_n X dX9_isNewName_k2.2.2.1.2 1 rfl ?_
            refine k_callVV (n := 0) (As := []) (st := []) X [(cO9_i1r1i2r1i1r2i4l1i2 h0 xtpd th xfn xfp tp xen nm nd xkd xsta xpo xva xle xtk xta), (cAB g tp 900 tpf)] [(cAJ g nm 16 nmf), (cO8_iiri nd 16 2 ndc ndn), (cAI g ndc 32 ndf)] [0, 1] [2, 3, 4] (x_nextX l g h0 xtpd th xfn xfp tp xen nm nd xkd xsta xpo xva xle xtk xta tpf (iv_w hv_xen (zle_e rfl) (zle_e rfl)) (iv_w hv_xpo (zle_e rfl) (zle_e rfl))) dX9_isNewName_k2.2.2.2.1 mw237 mw238 mw239 mw15 mw240 rfl 9 rfl rfl 0 _ rfl yk_yX9_next_0 rfl (Nat.le_of_ble_eq_true rfl) (Nat.le_of_ble_eq_true rfl) (Nat.le_of_ble_eq_true rfl) (Nat.le_of_ble_eq_true rfl) (Nat.le_of_ble_eq_true rfl) rfl rfl (vnd_e rfl) rfl (vnd_e rfl) (dsj_e rfl) ?_
            rintro w ⟨xkd2_36, xsta2_37, xpo2_38, xva2_39, xle2_40, iv_42, iv_43, iv_44, hq_45, rfl⟩
            refine k_ws [(cAJ g nm 16 nmf), (cO8_iiri nd 16 2 ndc ndn), (cAI g ndc 32 ndf), (cO9_i1r1i2r1i1r2i4l1i2 h0 xtpd th xfn xfp tp xen nm nd xkd2_36 xsta2_37 xpo2_38 xva2_39 xle2_40 xtk xta), (cAB g tp 900 tpf)] rfl ?_
            refine k_iconst (v := 1) X dX9_isNewName_k2.2.2.2.2 ic_1 ?_
            exact k_zret X hr (by first | rfl | decide) dX9_isNewName_k3 (Nat.le_of_ble_eq_true rfl) (Nat.le_of_ble_eq_true rfl) [3, 4, 0, 1, 2] (vnd_e rfl) rfl rfl (exI10 xfn xfp xkd2_36 xsta2_37 xpo2_38 xva2_39 xle2_40 nmf ndf ndn ⟨(iv_w iv_42 (zle_e rfl) (zle_e rfl)), (iv_w iv_43 (zle_e rfl) (zle_e rfl)), (iv_w iq_1_1_1 (zle_e rfl) (zle_e rfl)), (Or.inr ⟨h_1, ⟨r_8, hq_10, (Or.inl ⟨h_11, ⟨r_13, hq_14, (Or.inl ⟨h_15, (Or.inr ⟨h_18, (Or.inl ⟨h_33, (exI5 xkd2_36 xsta2_37 xpo2_38 xva2_39 xle2_40 ⟨hq_45, ⟨rfl, rfl, rfl, rfl, rfl, rfl, rfl, rfl, rfl, rfl, rfl⟩⟩)⟩)⟩)⟩)⟩⟩)⟩⟩), rfl⟩)
          · skip
            have j_46 : ndn.toInt < 16 := iv_nle h_33
            have iv_47 : IV ndn 0 15 := iv_ltL (iv_nle h_33) iv_32 iq_16_16_16 (zle_e rfl)
            refine k_aload_n X dX9_isNewName_k2.1.1.1.2 1 rfl ?_
            refine k_get (ci := 9) X inlX9 rfl 6 (nlt_e rfl) dX9_isNewName_k2.1.1.2.1 mw61 0 rfl rfl ?_
            refine k_iload_n X dX9_isNewName_k2.1.1.2.2 0 rfl ?_
            refine k_aload_n X dX9_isNewName_k2.1.2.1.1 1 rfl ?_
            refine k_get (ci := 9) X inlX9 rfl 12 (nlt_e rfl) dX9_isNewName_k2.1.2.1.2 mw70 0 rfl rfl ?_
            refine k_last [(cO9_i1r1i2r1i1r2i4l1i2 h0 xtpd th xfn xfp tp xen nm nd xkd xsta xpo xva xle xtk xta), (cAB g tp 900 tpf), (cAJ g nm 16 (vp_updL nmf (ndn : Int32).toNatClampNeg xle)), (cO8_iiri nd 16 2 ndc ndn), (cAI g ndc 32 ndf)] X dX9_isNewName_k2.1.2.2.1 2 rfl (iv_in iv_47 (zle_e rfl) (zle_l rfl)) rfl ?_
            refine k_aload_n X dX9_isNewName_k2.1.2.2.2 1 rfl ?_
            refine k_get (ci := 9) X inlX9 rfl 7 (nlt_e rfl) dX9_isNewName_k2.2.1.1.1 mw65 0 rfl rfl ?_
            refine k_iload_n X dX9_isNewName_k2.2.1.1.2 2 rfl ?_
            refine k_iload_n X dX9_isNewName_k2.2.1.2.1 3 rfl ?_
            refine k_iconst (v := 0) X dX9_isNewName_k2.2.1.2.2 ic_0 ?_
            refine k_callVV (n := 3) (As := [.int p0, .int p1, .int 0]) (st := []) X [(cO8_iiri nd 16 2 ndc ndn), (cAI g ndc 32 ndf)] [(cO9_i1r1i2r1i1r2i4l1i2 h0 xtpd th xfn xfp tp xen nm nd xkd xsta xpo xva xle xtk xta), (cAB g tp 900 tpf), (cAJ g nm 16 (vp_updL nmf (ndn : Int32).toNatClampNeg xle))] [3, 4] [0, 1, 2] (t_add16_2X l g nd p0 p1 0 ndc ndn ndf) dX9_isNewName_k2.2.2.1.1 mw355 mw356 mw357 mw64 mw358 rfl 8 rfl rfl 0 _ rfl yk_yX8_add_3 rfl (Nat.le_of_ble_eq_true rfl) (Nat.le_of_ble_eq_true rfl) (Nat.le_of_ble_eq_true rfl) (Nat.le_of_ble_eq_true rfl) (Nat.le_of_ble_eq_true rfl) rfl rfl (vnd_e rfl) rfl (vnd_e rfl) (dsj_e rfl) ?_
            rintro w ⟨h0g_49, h0k_50, hq_52, rfl⟩
            refine k_ws [(cO9_i1r1i2r1i1r2i4l1i2 h0 xtpd th xfn xfp tp xen nm nd xkd xsta xpo xva xle xtk xta), (cAB g tp 900 tpf), (cAJ g nm 16 (vp_updL nmf (ndn : Int32).toNatClampNeg xle)), (cO8_iiri nd 16 2 ndc h0k_50), (cAI g ndc 32 h0g_49)] rfl ?_
            refine k_aload_n X dX9_isNewName_k2.2.2.1.2 1 rfl ?_
            refine k_callVV (n := 0) (As := []) (st := []) X [(cO9_i1r1i2r1i1r2i4l1i2 h0 xtpd th xfn xfp tp xen nm nd xkd xsta xpo xva xle xtk xta), (cAB g tp 900 tpf)] [(cAJ g nm 16 (vp_updL nmf (ndn : Int32).toNatClampNeg xle)), (cO8_iiri nd 16 2 ndc h0k_50), (cAI g ndc 32 h0g_49)] [0, 1] [2, 3, 4] (x_nextX l g h0 xtpd th xfn xfp tp xen nm nd xkd xsta xpo xva xle xtk xta tpf (iv_w hv_xen (zle_e rfl) (zle_e rfl)) (iv_w hv_xpo (zle_e rfl) (zle_e rfl))) dX9_isNewName_k2.2.2.2.1 mw237 mw238 mw239 mw15 mw240 rfl 9 rfl rfl 0 _ rfl yk_yX9_next_0 rfl (Nat.le_of_ble_eq_true rfl) (Nat.le_of_ble_eq_true rfl) (Nat.le_of_ble_eq_true rfl) (Nat.le_of_ble_eq_true rfl) (Nat.le_of_ble_eq_true rfl) rfl rfl (vnd_e rfl) rfl (vnd_e rfl) (dsj_e rfl) ?_
            rintro w ⟨xkd2_53, xsta2_54, xpo2_55, xva2_56, xle2_57, iv_59, iv_60, iv_61, hq_62, rfl⟩
            refine k_ws [(cAJ g nm 16 (vp_updL nmf (ndn : Int32).toNatClampNeg xle)), (cO8_iiri nd 16 2 ndc h0k_50), (cAI g ndc 32 h0g_49), (cO9_i1r1i2r1i1r2i4l1i2 h0 xtpd th xfn xfp tp xen nm nd xkd2_53 xsta2_54 xpo2_55 xva2_56 xle2_57 xtk xta), (cAB g tp 900 tpf)] rfl ?_
            refine k_iconst (v := 1) X dX9_isNewName_k2.2.2.2.2 ic_1 ?_
            exact k_zret X hr (by first | rfl | decide) dX9_isNewName_k3 (Nat.le_of_ble_eq_true rfl) (Nat.le_of_ble_eq_true rfl) [3, 4, 0, 1, 2] (vnd_e rfl) rfl rfl (exI7 xfn xfp xkd2_53 xsta2_54 xpo2_55 xva2_56 xle2_57 ⟨(vp_updL nmf (ndn : Int32).toNatClampNeg xle), h0g_49, h0k_50, (iv_w iv_59 (zle_e rfl) (zle_e rfl)), (iv_w iv_60 (zle_e rfl) (zle_e rfl)), (iv_w iq_1_1_1 (zle_e rfl) (zle_e rfl)), (Or.inr ⟨h_1, ⟨r_8, hq_10, (Or.inl ⟨h_11, ⟨r_13, hq_14, (Or.inl ⟨h_15, (Or.inr ⟨h_18, (Or.inr ⟨h_33, ⟨h0g_49, h0k_50, hq_52, (exI5 xkd2_53 xsta2_54 xpo2_55 xva2_56 xle2_57 ⟨hq_62, ⟨rfl, rfl, rfl, rfl, rfl, rfl, rfl, rfl, rfl, rfl, rfl⟩⟩)⟩⟩)⟩)⟩)⟩⟩)⟩⟩), rfl⟩)
      · skip
        have j_63 : 0 ≤ r_13.toInt := iv_nlt h_15
        have iv_64 : IV r_13 0 2147483647 := iv_leR (iv_nlt h_15) iq_0_0_0 (iv_any r_13) (zle_e rfl)
        refine k_aload_n X dX9_isNewName_k1.1.1.1.1 0 rfl ?_
        refine k_iconst (v := 3) X dX9_isNewName_k1.1.1.1.2 ic_3 ?_
        refine k_aload_n X dX9_isNewName_k1.1.1.2.1 0 rfl ?_
        refine k_get (ci := 9) X inlX9 rfl 9 (nlt_e rfl) dX9_isNewName_k1.1.1.2.2 mw67 0 rfl rfl ?_
        refine k_callVI (n := 2) (As := [.int 3, .int xsta]) (st := []) X [(cO9_i1r1i2r1i1r2i4l1i2 h0 xtpd th xfn xfp tp xen nm nd xkd xsta xpo xva xle xtk xta), (cAB g tp 900 tpf)] [(cAJ g nm 16 nmf), (cO8_iiri nd 16 2 ndc ndn), (cAI g ndc 32 ndf)] [0, 1] [2, 3, 4] (x_refuseAtX l g h0 3 xsta xtpd th xfn xfp tp xen nm nd xkd xsta xpo xva xle xtk xta tpf) dX9_isNewName_k1.1.2.1.1 mw309 mw310 mw311 mw15 mw312 rfl 9 rfl rfl 0 _ rfl yk_yX9_refuseAt_2 rfl (Nat.le_of_ble_eq_true rfl) (Nat.le_of_ble_eq_true rfl) (Nat.le_of_ble_eq_true rfl) (Nat.le_of_ble_eq_true rfl) (Nat.le_of_ble_eq_true rfl) rfl rfl (vnd_e rfl) rfl (vnd_e rfl) (dsj_e rfl) ?_
        rintro r_67 w ⟨xfn2_65, xfp2_66, iv_68, hq_69, rfl⟩
        refine k_ws [(cAJ g nm 16 nmf), (cO8_iiri nd 16 2 ndc ndn), (cAI g ndc 32 ndf), (cO9_i1r1i2r1i1r2i4l1i2 h0 xtpd th xfn2_65 xfp2_66 tp xen nm nd xkd xsta xpo xva xle xtk xta), (cAB g tp 900 tpf)] rfl ?_
        exact k_zret X hr (zn_b (iv_w iv_68 (zle_e rfl) (zle_e rfl))) dX9_isNewName_k1.1.2.1.2 (Nat.le_of_ble_eq_true rfl) (Nat.le_of_ble_eq_true rfl) [3, 4, 0, 1, 2] (vnd_e rfl) rfl rfl (exI10 xfn2_65 xfp2_66 xkd xsta xpo xva xle nmf ndf ndn ⟨(iv_w hv_xsta (zle_e rfl) (zle_e rfl)), (iv_w hv_xpo (zle_e rfl) (zle_e rfl)), (iv_w iv_68 (zle_e rfl) (zle_e rfl)), (Or.inr ⟨h_1, ⟨r_8, hq_10, (Or.inl ⟨h_11, ⟨r_13, hq_14, (Or.inr ⟨h_15, ⟨xfn2_65, xfp2_66, r_67, hq_69, ⟨rfl, rfl, rfl, rfl, rfl, rfl, rfl, rfl, rfl, rfl, rfl⟩⟩⟩)⟩⟩)⟩⟩), rfl⟩)
    · skip
      have iv_70 : IV r_8 1 1 := iv_neL h_11 iv_9 iq_0_0_0 (zle_e rfl)
      refine k_aload_n X dX9_isNewName_k0.1.2.2.2 0 rfl ?_
      refine k_iconst (v := 1) X dX9_isNewName_k0.2.1.1.1 ic_1 ?_
      refine k_aload_n X dX9_isNewName_k0.2.1.1.2 0 rfl ?_
      refine k_get (ci := 9) X inlX9 rfl 9 (nlt_e rfl) dX9_isNewName_k0.2.1.2.1 mw67 3 rfl rfl ?_
      refine k_callVI (n := 2) (As := [.int 1, .int xsta]) (st := []) X [(cO9_i1r1i2r1i1r2i4l1i2 h0 xtpd th xfn xfp tp xen nm nd xkd xsta xpo xva xle xtk xta), (cAB g tp 900 tpf)] [(cAJ g nm 16 nmf), (cO8_iiri nd 16 2 ndc ndn), (cAI g ndc 32 ndf)] [3, 4] [0, 1, 2] (x_refuseAtX l g h0 1 xsta xtpd th xfn xfp tp xen nm nd xkd xsta xpo xva xle xtk xta tpf) dX9_isNewName_k0.2.1.2.2 mw309 mw310 mw311 mw15 mw312 rfl 9 rfl rfl 0 _ rfl yk_yX9_refuseAt_2 rfl (Nat.le_of_ble_eq_true rfl) (Nat.le_of_ble_eq_true rfl) (Nat.le_of_ble_eq_true rfl) (Nat.le_of_ble_eq_true rfl) (Nat.le_of_ble_eq_true rfl) rfl rfl (vnd_e rfl) rfl (vnd_e rfl) (dsj_e rfl) ?_
      rintro r_73 w ⟨xfn2_71, xfp2_72, iv_74, hq_75, rfl⟩
      refine k_ws [(cAJ g nm 16 nmf), (cO8_iiri nd 16 2 ndc ndn), (cAI g ndc 32 ndf), (cO9_i1r1i2r1i1r2i4l1i2 h0 xtpd th xfn2_71 xfp2_72 tp xen nm nd xkd xsta xpo xva xle xtk xta), (cAB g tp 900 tpf)] rfl ?_
      exact k_zret X hr (zn_b (iv_w iv_74 (zle_e rfl) (zle_e rfl))) dX9_isNewName_k0.2.2.1.1 (Nat.le_of_ble_eq_true rfl) (Nat.le_of_ble_eq_true rfl) [3, 4, 0, 1, 2] (vnd_e rfl) rfl rfl (exI10 xfn2_71 xfp2_72 xkd xsta xpo xva xle nmf ndf ndn ⟨(iv_w hv_xsta (zle_e rfl) (zle_e rfl)), (iv_w hv_xpo (zle_e rfl) (zle_e rfl)), (iv_w iv_74 (zle_e rfl) (zle_e rfl)), (Or.inr ⟨h_1, ⟨r_8, hq_10, (Or.inr ⟨h_11, ⟨xfn2_71, xfp2_72, r_73, hq_75, ⟨rfl, rfl, rfl, rfl, rfl, rfl, rfl, rfl, rfl, rfl, rfl⟩⟩⟩)⟩⟩), rfl⟩)


set_option maxHeartbeats 4000000 in
set_option maxRecDepth 100000 in
theorem x_isOldNameX (l : Launch) (g : Gx) (h0 : Nat) (p0 : Int32) (xtpd : Int32) (th : Nat) (xfn : Int32) (xfp : Int32) (tp : Nat) (xen : Int32) (nm : Nat) (nd : Nat) (xkd : Int32) (xsta : Int32) (xpo : Int32) (xva : Int32) (xle : Int64) (xtk : Int32) (xta : Int32) (tpf : Nat → Int32) (nmf : Nat → Int64) (ndc : Nat) (ndn : Int32) (ndf : Nat → Int32) (hv_xen : IV xen 0 900) (hv_xsta : IV xsta 0 900) (hv_xpo : IV xpo 0 900) : cI l g yX9_isOldName cX9_isOldName 3 (some .boolean) 6 127 0 0 [.ref h0, .int p0] [(cO9_i1r1i2r1i1r2i4l1i2 h0 xtpd th xfn xfp tp xen nm nd xkd xsta xpo xva xle xtk xta), (cAB g tp 900 tpf), (cAJ g nm 16 nmf), (cO8_iiri nd 16 2 ndc ndn), (cAI g ndc 32 ndf)] (fun r w => ∃ (xfn2 : Int32) (xfp2 : Int32) (xkd2 : Int32) (xsta2 : Int32) (xpo2 : Int32) (xva2 : Int32) (xle2 : Int64) (xtk2 : Int32) (xta2 : Int32), IV xsta2 0 900 ∧ IV xpo2 0 900 ∧ IV r 0 1 ∧ (R_x_isOldNameX p0 xfn xfp xen xkd xsta xpo xva xle xtk xta tpf nmf ndn ndf xfn2 xfp2 xkd2 xsta2 xpo2 xva2 xle2 xtk2 xta2 r) ∧ w = [(cO9_i1r1i2r1i1r2i4l1i2 h0 xtpd th xfn2 xfp2 tp xen nm nd xkd2 xsta2 xpo2 xva2 xle2 xtk2 xta2), (cAB g tp 900 tpf), (cAJ g nm 16 nmf), (cO8_iiri nd 16 2 ndc ndn), (cAI g ndc 32 ndf)]) := by
  refine cI.of (by decide) (Nat.le_of_ble_eq_true rfl) ?_
  intro p e s m args below meth c A X hr hi
  refine k_lveq [(0, .ref h0), (1, .int p0)] rfl ?_
  refine k_aload_n X dX9_isOldName_k0.1.1.1.1 0 rfl ?_
  refine k_get (ci := 9) X inlX9 rfl 8 (nlt_e rfl) dX9_isOldName_k0.1.1.1.2 mw66 0 rfl rfl ?_
  refine k_iconst (v := 1) X dX9_isOldName_k0.1.1.2.1 ic_1 ?_
  refine k_ic_ne 15 X dX9_isOldName_k0.1.1.2.2 (jp_e rfl) (fun h_1 => ?_) (fun h_1 => ?_)
  · skip
    refine k_aload_n X dX9_isOldName_k0.1.2.2.2 0 rfl ?_
    refine k_iconst (v := 1) X dX9_isOldName_k0.2.1.1.1 ic_1 ?_
    refine k_aload_n X dX9_isOldName_k0.2.1.1.2 0 rfl ?_
    refine k_get (ci := 9) X inlX9 rfl 9 (nlt_e rfl) dX9_isOldName_k0.2.1.2.1 mw67 0 rfl rfl ?_
    refine k_callVI (n := 2) (As := [.int 1, .int xsta]) (st := []) X [(cO9_i1r1i2r1i1r2i4l1i2 h0 xtpd th xfn xfp tp xen nm nd xkd xsta xpo xva xle xtk xta), (cAB g tp 900 tpf)] [(cAJ g nm 16 nmf), (cO8_iiri nd 16 2 ndc ndn), (cAI g ndc 32 ndf)] [0, 1] [2, 3, 4] (x_refuseAtX l g h0 1 xsta xtpd th xfn xfp tp xen nm nd xkd xsta xpo xva xle xtk xta tpf) dX9_isOldName_k0.2.1.2.2 mw309 mw310 mw311 mw15 mw312 rfl 9 rfl rfl 0 _ rfl yk_yX9_refuseAt_2 rfl (Nat.le_of_ble_eq_true rfl) (Nat.le_of_ble_eq_true rfl) (Nat.le_of_ble_eq_true rfl) (Nat.le_of_ble_eq_true rfl) (Nat.le_of_ble_eq_true rfl) rfl rfl (vnd_e rfl) rfl (vnd_e rfl) (dsj_e rfl) ?_
    rintro r_4 w ⟨xfn2_2, xfp2_3, iv_5, hq_6, rfl⟩
    refine k_ws [(cAJ g nm 16 nmf), (cO8_iiri nd 16 2 ndc ndn), (cAI g ndc 32 ndf), (cO9_i1r1i2r1i1r2i4l1i2 h0 xtpd th xfn2_2 xfp2_3 tp xen nm nd xkd xsta xpo xva xle xtk xta), (cAB g tp 900 tpf)] rfl ?_
    exact k_zret X hr (zn_b (iv_w iv_5 (zle_e rfl) (zle_e rfl))) dX9_isOldName_k0.2.2.1.1 (Nat.le_of_ble_eq_true rfl) (Nat.le_of_ble_eq_true rfl) [3, 4, 0, 1, 2] (vnd_e rfl) rfl rfl (exI9 xfn2_2 xfp2_3 xkd xsta xpo xva xle xtk xta ⟨(iv_w hv_xsta (zle_e rfl) (zle_e rfl)), (iv_w hv_xpo (zle_e rfl) (zle_e rfl)), (iv_w iv_5 (zle_e rfl) (zle_e rfl)), (Or.inl ⟨h_1, ⟨xfn2_2, xfp2_3, r_4, hq_6, ⟨rfl, rfl, rfl, rfl, rfl, rfl, rfl, rfl, rfl, rfl⟩⟩⟩), rfl⟩)
  · skip
    have iv_7 : IV xkd 1 1 := iv_meet (iv_any xkd) (iv_e h_1 iq_1_1_1) (zle_o rfl) (zle_o rfl)
    refine k_aload_n X dX9_isOldName_k0.1.2.1.1 0 rfl ?_
    refine k_callVI (n := 0) (As := []) (st := []) X [(cO9_i1r1i2r1i1r2i4l1i2 h0 xtpd th xfn xfp tp xen nm nd xkd xsta xpo xva xle xtk xta), (cAB g tp 900 tpf)] [(cAJ g nm 16 nmf), (cO8_iiri nd 16 2 ndc ndn), (cAI g ndc 32 ndf)] [0, 1] [2, 3, 4] (x_isReservedX l g h0 xtpd th xfn xfp tp xen nm nd xkd xsta xpo xva xle xtk xta tpf (iv_w hv_xsta (zle_e rfl) (zle_e rfl))) dX9_isOldName_k0.1.2.1.2 mw329 mw330 mw331 mw15 mw332 rfl 9 rfl rfl 0 _ rfl yk_yX9_isReserved_0 rfl (Nat.le_of_ble_eq_true rfl) (Nat.le_of_ble_eq_true rfl) (Nat.le_of_ble_eq_true rfl) (Nat.le_of_ble_eq_true rfl) (Nat.le_of_ble_eq_true rfl) rfl rfl (vnd_e rfl) rfl (vnd_e rfl) (dsj_e rfl) ?_
    rintro r_8 w ⟨iv_9, hq_10, rfl⟩
    refine k_ws [(cAJ g nm 16 nmf), (cO8_iiri nd 16 2 ndc ndn), (cAI g ndc 32 ndf), (cO9_i1r1i2r1i1r2i4l1i2 h0 xtpd th xfn xfp tp xen nm nd xkd xsta xpo xva xle xtk xta), (cAB g tp 900 tpf)] rfl ?_
    refine k_if_eq 25 X dX9_isOldName_k0.1.2.2.1 (jp_e rfl) (fun h_11 => ?_) (fun h_11 => ?_)
    · skip
      have iv_12 : IV r_8 0 0 := iv_meet iv_9 (iv_e h_11 iq_0_0_0) (zle_o rfl) (zle_o rfl)
      refine k_aload_n X dX9_isOldName_k0.2.2.1.2 0 rfl ?_
      refine k_callVI (n := 0) (As := []) (st := []) X [(cO9_i1r1i2r1i1r2i4l1i2 h0 xtpd th xfn xfp tp xen nm nd xkd xsta xpo xva xle xtk xta), (cAB g tp 900 tpf), (cAJ g nm 16 nmf), (cO8_iiri nd 16 2 ndc ndn), (cAI g ndc 32 ndf)] [] [3, 4, 0, 1, 2] [] (x_findNameX l g h0 xtpd th xfn xfp tp xen nm nd xkd xsta xpo xva xle xtk xta tpf nmf ndc ndn ndf) dX9_isOldName_k0.2.2.2.1 mw351 mw352 mw353 mw15 mw354 rfl 9 rfl rfl 0 _ rfl yk_yX9_findName_0 rfl (Nat.le_of_ble_eq_true rfl) (Nat.le_of_ble_eq_true rfl) (Nat.le_of_ble_eq_true rfl) (Nat.le_of_ble_eq_true rfl) (Nat.le_of_ble_eq_true rfl) rfl rfl (vnd_e rfl) rfl (vnd_e rfl) (dsj_e rfl) ?_
      rintro r_13 w ⟨hq_14, rfl⟩
      refine k_ws [(cO9_i1r1i2r1i1r2i4l1i2 h0 xtpd th xfn xfp tp xen nm nd xkd xsta xpo xva xle xtk xta), (cAB g tp 900 tpf), (cAJ g nm 16 nmf), (cO8_iiri nd 16 2 ndc ndn), (cAI g ndc 32 ndf)] rfl ?_
      refine k_istore_n [(2, .int r_13), (0, .ref h0), (1, .int p0)] X dX9_isOldName_k0.2.2.2.2 (nlt_e rfl) rfl ?_
      refine k_iload_n X dX9_isOldName_k1.1.1.1.1 0 rfl ?_
      refine k_if_lt 47 X dX9_isOldName_k1.1.1.1.2 (jp_e rfl) (fun h_15 => ?_) (fun h_15 => ?_)
      · skip
        have j_16 : r_13.toInt < 0 := iv_lt h_15
        have iv_17 : IV r_13 (-2147483648) (-1) := iv_ltL (iv_lt h_15) (iv_any r_13) iq_0_0_0 (zle_e rfl)
        refine k_aload_n X dX9_isOldName_k1.2.1.1.2 1 rfl ?_
        refine k_iconst (v := 2) X dX9_isOldName_k1.2.1.2.1 ic_2 ?_
        refine k_aload_n X dX9_isOldName_k1.2.1.2.2 1 rfl ?_
        refine k_get (ci := 9) X inlX9 rfl 9 (nlt_e rfl) dX9_isOldName_k1.2.2.1.1 mw67 0 rfl rfl ?_
        refine k_callVI (n := 2) (As := [.int 2, .int xsta]) (st := []) X [(cO9_i1r1i2r1i1r2i4l1i2 h0 xtpd th xfn xfp tp xen nm nd xkd xsta xpo xva xle xtk xta), (cAB g tp 900 tpf)] [(cAJ g nm 16 nmf), (cO8_iiri nd 16 2 ndc ndn), (cAI g ndc 32 ndf)] [0, 1] [2, 3, 4] (x_refuseAtX l g h0 2 xsta xtpd th xfn xfp tp xen nm nd xkd xsta xpo xva xle xtk xta tpf) dX9_isOldName_k1.2.2.1.2 mw309 mw310 mw311 mw15 mw312 rfl 9 rfl rfl 0 _ rfl yk_yX9_refuseAt_2 rfl (Nat.le_of_ble_eq_true rfl) (Nat.le_of_ble_eq_true rfl) (Nat.le_of_ble_eq_true rfl) (Nat.le_of_ble_eq_true rfl) (Nat.le_of_ble_eq_true rfl) rfl rfl (vnd_e rfl) rfl (vnd_e rfl) (dsj_e rfl) ?_
        rintro r_20 w ⟨xfn2_18, xfp2_19, iv_21, hq_22, rfl⟩
        refine k_ws [(cAJ g nm 16 nmf), (cO8_iiri nd 16 2 ndc ndn), (cAI g ndc 32 ndf), (cO9_i1r1i2r1i1r2i4l1i2 h0 xtpd th xfn2_18 xfp2_19 tp xen nm nd xkd xsta xpo xva xle xtk xta), (cAB g tp 900 tpf)] rfl ?_
        exact k_zret X hr (zn_b (iv_w iv_21 (zle_e rfl) (zle_e rfl))) dX9_isOldName_k1.2.2.2.1 (Nat.le_of_ble_eq_true rfl) (Nat.le_of_ble_eq_true rfl) [3, 4, 0, 1, 2] (vnd_e rfl) rfl rfl (exI9 xfn2_18 xfp2_19 xkd xsta xpo xva xle xtk xta ⟨(iv_w hv_xsta (zle_e rfl) (zle_e rfl)), (iv_w hv_xpo (zle_e rfl) (zle_e rfl)), (iv_w iv_21 (zle_e rfl) (zle_e rfl)), (Or.inr ⟨h_1, ⟨r_8, hq_10, (Or.inl ⟨h_11, ⟨r_13, hq_14, (Or.inl ⟨h_15, ⟨xfn2_18, xfp2_19, r_20, hq_22, ⟨rfl, rfl, rfl, rfl, rfl, rfl, rfl, rfl, rfl, rfl⟩⟩⟩)⟩⟩)⟩⟩), rfl⟩)
      · skip
        have j_23 : 0 ≤ r_13.toInt := iv_nlt h_15
        have iv_24 : IV r_13 0 2147483647 := iv_leR (iv_nlt h_15) iq_0_0_0 (iv_any r_13) (zle_e rfl)
        refine k_aload_n X dX9_isOldName_k1.1.1.2.1 1 rfl ?_
        refine k_get (ci := 9) X inlX9 rfl 7 (nlt_e rfl) dX9_isOldName_k1.1.1.2.2 mw65 0 rfl rfl ?_
        refine k_iload_n X dX9_isOldName_k1.1.2.1.1 0 rfl ?_
        refine k_iconst (v := 0) X dX9_isOldName_k1.1.2.1.2 ic_0 ?_
        refine k_callVI (n := 2) (As := [.int r_13, .int 0]) (st := []) X [(cO8_iiri nd 16 2 ndc ndn), (cAI g ndc 32 ndf)] [(cO9_i1r1i2r1i1r2i4l1i2 h0 xtpd th xfn xfp tp xen nm nd xkd xsta xpo xva xle xtk xta), (cAB g tp 900 tpf), (cAJ g nm 16 nmf)] [3, 4] [0, 1, 2] (t_at l g nd r_13 0 16 2 ndc ndn 32 ndf (tbk_16_2)) dX9_isOldName_k1.1.2.2.1 mw375 mw376 mw377 mw64 mw378 rfl 8 rfl rfl 0 _ rfl yk_yX8_at_2 rfl (Nat.le_of_ble_eq_true rfl) (Nat.le_of_ble_eq_true rfl) (Nat.le_of_ble_eq_true rfl) (Nat.le_of_ble_eq_true rfl) (Nat.le_of_ble_eq_true rfl) rfl rfl (vnd_e rfl) rfl (vnd_e rfl) (dsj_e rfl) ?_
        rintro r_25 w ⟨hr_26, rfl⟩
        refine k_ws [(cO9_i1r1i2r1i1r2i4l1i2 h0 xtpd th xfn xfp tp xen nm nd xkd xsta xpo xva xle xtk xta), (cAB g tp 900 tpf), (cAJ g nm 16 nmf), (cO8_iiri nd 16 2 ndc ndn), (cAI g ndc 32 ndf)] rfl ?_
        refine k_iload_n X dX9_isOldName_k1.1.2.2.2 2 rfl ?_
        refine k_ic_eq 57 X dX9_isOldName_k1.2.1.1.1 (jp_e rfl) (fun h_27 => ?_) (fun h_27 => ?_)
        · skip
          refine k_aload_n X dX9_isOldName_k1.2.2.2.2 1 rfl ?_
          refine k_aload_n X dX9_isOldName_k2.1.1.1 1 rfl ?_
          refine k_get (ci := 9) X inlX9 rfl 7 (nlt_e rfl) dX9_isOldName_k2.1.1.2.1 mw65 0 rfl rfl ?_
          refine k_iload_n X dX9_isOldName_k2.1.1.2.2 0 rfl ?_
          refine k_iconst (v := 1) X dX9_isOldName_k2.1.2.1.1 ic_1 ?_
          refine k_callVI (n := 2) (As := [.int r_13, .int 1]) (st := [.ref h0]) X [(cO8_iiri nd 16 2 ndc ndn), (cAI g ndc 32 ndf)] [(cO9_i1r1i2r1i1r2i4l1i2 h0 xtpd th xfn xfp tp xen nm nd xkd xsta xpo xva xle xtk xta), (cAB g tp 900 tpf), (cAJ g nm 16 nmf)] [3, 4] [0, 1, 2] (t_at l g nd r_13 1 16 2 ndc ndn 32 ndf (tbk_16_2)) dX9_isOldName_k2.1.2.1.2 mw375 mw376 mw377 mw64 mw378 rfl 8 rfl rfl 0 _ rfl yk_yX8_at_2 rfl (Nat.le_of_ble_eq_true rfl) (Nat.le_of_ble_eq_true rfl) (Nat.le_of_ble_eq_true rfl) (Nat.le_of_ble_eq_true rfl) (Nat.le_of_ble_eq_true rfl) rfl rfl (vnd_e rfl) rfl (vnd_e rfl) (dsj_e rfl) ?_
          rintro r_28 w ⟨hr_29, rfl⟩
          refine k_ws [(cO9_i1r1i2r1i1r2i4l1i2 h0 xtpd th xfn xfp tp xen nm nd xkd xsta xpo xva xle xtk xta), (cAB g tp 900 tpf), (cAJ g nm 16 nmf), (cO8_iiri nd 16 2 ndc ndn), (cAI g ndc 32 ndf)] rfl ?_
          refine k_put (ci := 9) [(cO9_i1r1i2r1i1r2i4l1i2 h0 xtpd th xfn xfp tp xen nm nd xkd xsta xpo xva xle r_28 xta), (cAB g tp 900 tpf), (cAJ g nm 16 nmf), (cO8_iiri nd 16 2 ndc ndn), (cAI g ndc 32 ndf)] X inlX9 rfl tyX9_ok nmX9 13 (nlt_e rfl) rfl dX9_isOldName_k2.1.2.2.1 mw71 0 rfl rfl rfl (Nat.le_of_ble_eq_true rfl) rfl ?_
          refine k_aload_n X dX9_isOldName_k2.1.2.2.2 1 rfl ?_
          refine k_aload_n X dX9_isOldName_k2.2.1.1 1 rfl ?_
          refine k_get (ci := 9) X inlX9 rfl 9 (nlt_e rfl) dX9_isOldName_k2.2.1.2.1 mw67 0 rfl rfl ?_
          refine k_put (ci := 9) [(cO9_i1r1i2r1i1r2i4l1i2 h0 xtpd th xfn xfp tp xen nm nd xkd xsta xpo xva xle r_28 xsta), (cAB g tp 900 tpf), (cAJ g nm 16 nmf), (cO8_iiri nd 16 2 ndc ndn), (cAI g ndc 32 ndf)] X inlX9 rfl tyX9_ok nmX9 14 (nlt_e rfl) rfl dX9_isOldName_k2.2.1.2.2 mw72 0 rfl rfl rfl (Nat.le_of_ble_eq_true rfl) rfl ?_
          refine k_aload_n X dX9_isOldName_k2.2.2.1.1 1 rfl ?_
          refine k_callVV (n := 0) (As := []) (st := []) X [(cO9_i1r1i2r1i1r2i4l1i2 h0 xtpd th xfn xfp tp xen nm nd xkd xsta xpo xva xle r_28 xsta), (cAB g tp 900 tpf)] [(cAJ g nm 16 nmf), (cO8_iiri nd 16 2 ndc ndn), (cAI g ndc 32 ndf)] [0, 1] [2, 3, 4] (x_nextX l g h0 xtpd th xfn xfp tp xen nm nd xkd xsta xpo xva xle r_28 xsta tpf (iv_w hv_xen (zle_e rfl) (zle_e rfl)) (iv_w hv_xpo (zle_e rfl) (zle_e rfl))) dX9_isOldName_k2.2.2.1.2 mw237 mw238 mw239 mw15 mw240 rfl 9 rfl rfl 0 _ rfl yk_yX9_next_0 rfl (Nat.le_of_ble_eq_true rfl) (Nat.le_of_ble_eq_true rfl) (Nat.le_of_ble_eq_true rfl) (Nat.le_of_ble_eq_true rfl) (Nat.le_of_ble_eq_true rfl) rfl rfl (vnd_e rfl) rfl (vnd_e rfl) (dsj_e rfl) ?_
          rintro w ⟨xkd2_30, xsta2_31, xpo2_32, xva2_33, xle2_34, iv_36, iv_37, iv_38, hq_39, rfl⟩
          refine k_ws [(cAJ g nm 16 nmf), (cO8_iiri nd 16 2 ndc ndn), (cAI g ndc 32 ndf), (cO9_i1r1i2r1i1r2i4l1i2 h0 xtpd th xfn xfp tp xen nm nd xkd2_30 xsta2_31 xpo2_32 xva2_33 xle2_34 r_28 xsta), (cAB g tp 900 tpf)] rfl ?_
          refine k_iconst (v := 1) X dX9_isOldName_k2.2.2.2.1 ic_1 ?_
          exact k_zret X hr (by first | rfl | decide) dX9_isOldName_k2.2.2.2.2 (Nat.le_of_ble_eq_true rfl) (Nat.le_of_ble_eq_true rfl) [3, 4, 0, 1, 2] (vnd_e rfl) rfl rfl (exI9 xfn xfp xkd2_30 xsta2_31 xpo2_32 xva2_33 xle2_34 r_28 xsta ⟨(iv_w iv_36 (zle_e rfl) (zle_e rfl)), (iv_w iv_37 (zle_e rfl) (zle_e rfl)), (iv_w iq_1_1_1 (zle_e rfl) (zle_e rfl)), (Or.inr ⟨h_1, ⟨r_8, hq_10, (Or.inl ⟨h_11, ⟨r_13, hq_14, (Or.inr ⟨h_15, ⟨r_25, hr_26, (Or.inl ⟨h_27, ⟨r_28, hr_29, (exI5 xkd2_30 xsta2_31 xpo2_32 xva2_33 xle2_34 ⟨hq_39, ⟨rfl, rfl, rfl, rfl, rfl, rfl, rfl, rfl, rfl, rfl⟩⟩)⟩⟩)⟩⟩)⟩⟩)⟩⟩), rfl⟩)
        · skip
          refine k_aload_n X dX9_isOldName_k1.2.1.1.2 1 rfl ?_
          refine k_iconst (v := 2) X dX9_isOldName_k1.2.1.2.1 ic_2 ?_
          refine k_aload_n X dX9_isOldName_k1.2.1.2.2 1 rfl ?_
          refine k_get (ci := 9) X inlX9 rfl 9 (nlt_e rfl) dX9_isOldName_k1.2.2.1.1 mw67 0 rfl rfl ?_
          refine k_callVI (n := 2) (As := [.int 2, .int xsta]) (st := []) X [(cO9_i1r1i2r1i1r2i4l1i2 h0 xtpd th xfn xfp tp xen nm nd xkd xsta xpo xva xle xtk xta), (cAB g tp 900 tpf)] [(cAJ g nm 16 nmf), (cO8_iiri nd 16 2 ndc ndn), (cAI g ndc 32 ndf)] [0, 1] [2, 3, 4] (x_refuseAtX l g h0 2 xsta xtpd th xfn xfp tp xen nm nd xkd xsta xpo xva xle xtk xta tpf) dX9_isOldName_k1.2.2.1.2 mw309 mw310 mw311 mw15 mw312 rfl 9 rfl rfl 0 _ rfl yk_yX9_refuseAt_2 rfl (Nat.le_of_ble_eq_true rfl) (Nat.le_of_ble_eq_true rfl) (Nat.le_of_ble_eq_true rfl) (Nat.le_of_ble_eq_true rfl) (Nat.le_of_ble_eq_true rfl) rfl rfl (vnd_e rfl) rfl (vnd_e rfl) (dsj_e rfl) ?_
          rintro r_42 w ⟨xfn2_40, xfp2_41, iv_43, hq_44, rfl⟩
          refine k_ws [(cAJ g nm 16 nmf), (cO8_iiri nd 16 2 ndc ndn), (cAI g ndc 32 ndf), (cO9_i1r1i2r1i1r2i4l1i2 h0 xtpd th xfn2_40 xfp2_41 tp xen nm nd xkd xsta xpo xva xle xtk xta), (cAB g tp 900 tpf)] rfl ?_
          exact k_zret X hr (zn_b (iv_w iv_43 (zle_e rfl) (zle_e rfl))) dX9_isOldName_k1.2.2.2.1 (Nat.le_of_ble_eq_true rfl) (Nat.le_of_ble_eq_true rfl) [3, 4, 0, 1, 2] (vnd_e rfl) rfl rfl (exI9 xfn2_40 xfp2_41 xkd xsta xpo xva xle xtk xta ⟨(iv_w hv_xsta (zle_e rfl) (zle_e rfl)), (iv_w hv_xpo (zle_e rfl) (zle_e rfl)), (iv_w iv_43 (zle_e rfl) (zle_e rfl)), (Or.inr ⟨h_1, ⟨r_8, hq_10, (Or.inl ⟨h_11, ⟨r_13, hq_14, (Or.inr ⟨h_15, ⟨r_25, hr_26, (Or.inr ⟨h_27, ⟨xfn2_40, xfp2_41, r_42, hq_44, ⟨rfl, rfl, rfl, rfl, rfl, rfl, rfl, rfl, rfl, rfl⟩⟩⟩)⟩⟩)⟩⟩)⟩⟩), rfl⟩)
    · skip
      have iv_45 : IV r_8 1 1 := iv_neL h_11 iv_9 iq_0_0_0 (zle_e rfl)
      refine k_aload_n X dX9_isOldName_k0.1.2.2.2 0 rfl ?_
      refine k_iconst (v := 1) X dX9_isOldName_k0.2.1.1.1 ic_1 ?_
      refine k_aload_n X dX9_isOldName_k0.2.1.1.2 0 rfl ?_
      refine k_get (ci := 9) X inlX9 rfl 9 (nlt_e rfl) dX9_isOldName_k0.2.1.2.1 mw67 3 rfl rfl ?_
      refine k_callVI (n := 2) (As := [.int 1, .int xsta]) (st := []) X [(cO9_i1r1i2r1i1r2i4l1i2 h0 xtpd th xfn xfp tp xen nm nd xkd xsta xpo xva xle xtk xta), (cAB g tp 900 tpf)] [(cAJ g nm 16 nmf), (cO8_iiri nd 16 2 ndc ndn), (cAI g ndc 32 ndf)] [3, 4] [0, 1, 2] (x_refuseAtX l g h0 1 xsta xtpd th xfn xfp tp xen nm nd xkd xsta xpo xva xle xtk xta tpf) dX9_isOldName_k0.2.1.2.2 mw309 mw310 mw311 mw15 mw312 rfl 9 rfl rfl 0 _ rfl yk_yX9_refuseAt_2 rfl (Nat.le_of_ble_eq_true rfl) (Nat.le_of_ble_eq_true rfl) (Nat.le_of_ble_eq_true rfl) (Nat.le_of_ble_eq_true rfl) (Nat.le_of_ble_eq_true rfl) rfl rfl (vnd_e rfl) rfl (vnd_e rfl) (dsj_e rfl) ?_
      rintro r_48 w ⟨xfn2_46, xfp2_47, iv_49, hq_50, rfl⟩
      refine k_ws [(cAJ g nm 16 nmf), (cO8_iiri nd 16 2 ndc ndn), (cAI g ndc 32 ndf), (cO9_i1r1i2r1i1r2i4l1i2 h0 xtpd th xfn2_46 xfp2_47 tp xen nm nd xkd xsta xpo xva xle xtk xta), (cAB g tp 900 tpf)] rfl ?_
      exact k_zret X hr (zn_b (iv_w iv_49 (zle_e rfl) (zle_e rfl))) dX9_isOldName_k0.2.2.1.1 (Nat.le_of_ble_eq_true rfl) (Nat.le_of_ble_eq_true rfl) [3, 4, 0, 1, 2] (vnd_e rfl) rfl rfl (exI9 xfn2_46 xfp2_47 xkd xsta xpo xva xle xtk xta ⟨(iv_w hv_xsta (zle_e rfl) (zle_e rfl)), (iv_w hv_xpo (zle_e rfl) (zle_e rfl)), (iv_w iv_49 (zle_e rfl) (zle_e rfl)), (Or.inr ⟨h_1, ⟨r_8, hq_10, (Or.inr ⟨h_11, ⟨xfn2_46, xfp2_47, r_48, hq_50, ⟨rfl, rfl, rfl, rfl, rfl, rfl, rfl, rfl, rfl, rfl⟩⟩⟩)⟩⟩), rfl⟩)


set_option maxHeartbeats 4000000 in
set_option maxRecDepth 100000 in
theorem x_hasRoom0X (l : Launch) (g : Gx) (h0 : Nat) (tt : Nat) (xtpd : Int32) (th : Nat) (xfn : Int32) (xfp : Int32) (tp : Nat) (xen : Int32) (nm : Nat) (nd : Nat) (xkd : Int32) (xsta : Int32) (xpo : Int32) (xva : Int32) (xle : Int64) (xtk : Int32) (xta : Int32) (tpf : Nat → Int32) (ttc : Nat) (ttn : Int32) (ttf : Nat → Int32) (hv_xen : IV xen 0 900) (hv_xsta : IV xsta 0 900) (hv_xpo : IV xpo 0 900) : cI l g yX9_hasRoom cX9_hasRoom 2 (some .boolean) 2 42 0 0 [.ref h0, .ref tt] [(cO9_i1r1i2r1i1r2i4l1i2 h0 xtpd th xfn xfp tp xen nm nd xkd xsta xpo xva xle xtk xta), (cAB g tp 900 tpf), (cO8_iiri tt 8 3 ttc ttn), (cAI g ttc 24 ttf)] (fun r w => ∃ (xfn2 : Int32) (xfp2 : Int32) (xkd2 : Int32) (xsta2 : Int32) (xpo2 : Int32) (xva2 : Int32) (xle2 : Int64), IV xsta2 0 900 ∧ IV xpo2 0 900 ∧ IV r 0 1 ∧ (R_x_hasRoom0X xfn xfp xen xkd xsta xpo xva xle tpf ttn xfn2 xfp2 xkd2 xsta2 xpo2 xva2 xle2 r) ∧ w = [(cO9_i1r1i2r1i1r2i4l1i2 h0 xtpd th xfn2 xfp2 tp xen nm nd xkd2 xsta2 xpo2 xva2 xle2 xtk xta), (cAB g tp 900 tpf), (cO8_iiri tt 8 3 ttc ttn), (cAI g ttc 24 ttf)]) := by
  refine cI.of (by decide) (Nat.le_of_ble_eq_true rfl) ?_
  intro p e s m args below meth c A X hr hi
  refine k_lveq [(0, .ref h0), (1, .ref tt)] rfl ?_
  refine k_aload_n X dX9_hasRoom_k0.1.1.1 1 rfl ?_
  refine k_callVI (n := 0) (As := []) (st := []) X [(cO8_iiri tt 8 3 ttc ttn)] [(cO9_i1r1i2r1i1r2i4l1i2 h0 xtpd th xfn xfp tp xen nm nd xkd xsta xpo xva xle xtk xta), (cAB g tp 900 tpf), (cAI g ttc 24 ttf)] [2] [0, 1, 3] (t_isFull l g tt 8 (.int 3) (.ref ttc) ttn) dX9_hasRoom_k0.1.1.2.1 mw343 mw344 mw345 mw64 mw346 rfl 8 rfl rfl 0 _ rfl yk_yX8_isFull_0 rfl (Nat.le_of_ble_eq_true rfl) (Nat.le_of_ble_eq_true rfl) (Nat.le_of_ble_eq_true rfl) (Nat.le_of_ble_eq_true rfl) (Nat.le_of_ble_eq_true rfl) rfl rfl (vnd_e rfl) rfl (vnd_e rfl) (dsj_e rfl) ?_
  rintro r_1 w ⟨hr_2, rfl⟩
  refine k_ws [(cO9_i1r1i2r1i1r2i4l1i2 h0 xtpd th xfn xfp tp xen nm nd xkd xsta xpo xva xle xtk xta), (cAB g tp 900 tpf), (cAI g ttc 24 ttf), (cO8_iiri tt 8 3 ttc ttn)] rfl ?_
  refine k_if_eq 17 X dX9_hasRoom_k0.1.1.2.2 (jp_e rfl) (fun h_3 => ?_) (fun h_3 => ?_)
  · skip
    have iv_4 : IV r_1 0 0 := iv_meet (iv_any r_1) (iv_e h_3 iq_0_0_0) (zle_o rfl) (zle_o rfl)
    refine k_aload_n X dX9_hasRoom_k0.2.2.1.1 0 rfl ?_
    refine k_callVV (n := 0) (As := []) (st := []) X [(cO9_i1r1i2r1i1r2i4l1i2 h0 xtpd th xfn xfp tp xen nm nd xkd xsta xpo xva xle xtk xta), (cAB g tp 900 tpf)] [(cAI g ttc 24 ttf), (cO8_iiri tt 8 3 ttc ttn)] [0, 1] [2, 3] (x_nextX l g h0 xtpd th xfn xfp tp xen nm nd xkd xsta xpo xva xle xtk xta tpf (iv_w hv_xen (zle_e rfl) (zle_e rfl)) (iv_w hv_xpo (zle_e rfl) (zle_e rfl))) dX9_hasRoom_k0.2.2.1.2 mw237 mw238 mw239 mw15 mw240 rfl 9 rfl rfl 0 _ rfl yk_yX9_next_0 rfl (Nat.le_of_ble_eq_true rfl) (Nat.le_of_ble_eq_true rfl) (Nat.le_of_ble_eq_true rfl) (Nat.le_of_ble_eq_true rfl) (Nat.le_of_ble_eq_true rfl) rfl rfl (vnd_e rfl) rfl (vnd_e rfl) (dsj_e rfl) ?_
    rintro w ⟨xkd2_5, xsta2_6, xpo2_7, xva2_8, xle2_9, iv_11, iv_12, iv_13, hq_14, rfl⟩
    refine k_ws [(cAI g ttc 24 ttf), (cO8_iiri tt 8 3 ttc ttn), (cO9_i1r1i2r1i1r2i4l1i2 h0 xtpd th xfn xfp tp xen nm nd xkd2_5 xsta2_6 xpo2_7 xva2_8 xle2_9 xtk xta), (cAB g tp 900 tpf)] rfl ?_
    refine k_iconst (v := 1) X dX9_hasRoom_k0.2.2.2.1 ic_1 ?_
    exact k_zret X hr (by first | rfl | decide) dX9_hasRoom_k0.2.2.2.2 (Nat.le_of_ble_eq_true rfl) (Nat.le_of_ble_eq_true rfl) [2, 3, 1, 0] (vnd_e rfl) rfl rfl (exI7 xfn xfp xkd2_5 xsta2_6 xpo2_7 xva2_8 xle2_9 ⟨(iv_w iv_11 (zle_e rfl) (zle_e rfl)), (iv_w iv_12 (zle_e rfl) (zle_e rfl)), (iv_w iq_1_1_1 (zle_e rfl) (zle_e rfl)), ⟨r_1, hr_2, (Or.inl ⟨h_3, (exI5 xkd2_5 xsta2_6 xpo2_7 xva2_8 xle2_9 ⟨hq_14, ⟨rfl, rfl, rfl, rfl, rfl, rfl, rfl, rfl⟩⟩)⟩)⟩, rfl⟩)
  · skip
    refine k_aload_n X dX9_hasRoom_k0.1.2.1 0 rfl ?_
    refine k_iconst (v := 5) X dX9_hasRoom_k0.1.2.2.1 ic_5 ?_
    refine k_aload_n X dX9_hasRoom_k0.1.2.2.2 0 rfl ?_
    refine k_get (ci := 9) X inlX9 rfl 9 (nlt_e rfl) dX9_hasRoom_k0.2.1.1 mw67 0 rfl rfl ?_
    refine k_callVI (n := 2) (As := [.int 5, .int xsta]) (st := []) X [(cO9_i1r1i2r1i1r2i4l1i2 h0 xtpd th xfn xfp tp xen nm nd xkd xsta xpo xva xle xtk xta), (cAB g tp 900 tpf)] [(cAI g ttc 24 ttf), (cO8_iiri tt 8 3 ttc ttn)] [0, 1] [2, 3] (x_refuseAtX l g h0 5 xsta xtpd th xfn xfp tp xen nm nd xkd xsta xpo xva xle xtk xta tpf) dX9_hasRoom_k0.2.1.2.1 mw309 mw310 mw311 mw15 mw312 rfl 9 rfl rfl 0 _ rfl yk_yX9_refuseAt_2 rfl (Nat.le_of_ble_eq_true rfl) (Nat.le_of_ble_eq_true rfl) (Nat.le_of_ble_eq_true rfl) (Nat.le_of_ble_eq_true rfl) (Nat.le_of_ble_eq_true rfl) rfl rfl (vnd_e rfl) rfl (vnd_e rfl) (dsj_e rfl) ?_
    rintro r_17 w ⟨xfn2_15, xfp2_16, iv_18, hq_19, rfl⟩
    refine k_ws [(cAI g ttc 24 ttf), (cO8_iiri tt 8 3 ttc ttn), (cO9_i1r1i2r1i1r2i4l1i2 h0 xtpd th xfn2_15 xfp2_16 tp xen nm nd xkd xsta xpo xva xle xtk xta), (cAB g tp 900 tpf)] rfl ?_
    exact k_zret X hr (zn_b (iv_w iv_18 (zle_e rfl) (zle_e rfl))) dX9_hasRoom_k0.2.1.2.2 (Nat.le_of_ble_eq_true rfl) (Nat.le_of_ble_eq_true rfl) [2, 3, 1, 0] (vnd_e rfl) rfl rfl (exI7 xfn2_15 xfp2_16 xkd xsta xpo xva xle ⟨(iv_w hv_xsta (zle_e rfl) (zle_e rfl)), (iv_w hv_xpo (zle_e rfl) (zle_e rfl)), (iv_w iv_18 (zle_e rfl) (zle_e rfl)), ⟨r_1, hr_2, (Or.inr ⟨h_3, ⟨xfn2_15, xfp2_16, r_17, hq_19, ⟨rfl, rfl, rfl, rfl, rfl, rfl, rfl, rfl⟩⟩⟩)⟩, rfl⟩)


set_option maxHeartbeats 4000000 in
set_option maxRecDepth 100000 in
theorem x_hasRoom1X (l : Launch) (g : Gx) (h0 : Nat) (tt : Nat) (xtpd : Int32) (th : Nat) (xfn : Int32) (xfp : Int32) (tp : Nat) (xen : Int32) (nm : Nat) (nd : Nat) (xkd : Int32) (xsta : Int32) (xpo : Int32) (xva : Int32) (xle : Int64) (xtk : Int32) (xta : Int32) (tpf : Nat → Int32) (ttc : Nat) (ttn : Int32) (ttf : Nat → Int32) (hv_xen : IV xen 0 900) (hv_xsta : IV xsta 0 900) (hv_xpo : IV xpo 0 900) : cI l g yX9_hasRoom cX9_hasRoom 2 (some .boolean) 2 42 0 0 [.ref h0, .ref tt] [(cO9_i1r1i2r1i1r2i4l1i2 h0 xtpd th xfn xfp tp xen nm nd xkd xsta xpo xva xle xtk xta), (cAB g tp 900 tpf), (cO8_iiri tt 4 1 ttc ttn), (cAI g ttc 4 ttf)] (fun r w => ∃ (xfn2 : Int32) (xfp2 : Int32) (xkd2 : Int32) (xsta2 : Int32) (xpo2 : Int32) (xva2 : Int32) (xle2 : Int64), IV xsta2 0 900 ∧ IV xpo2 0 900 ∧ IV r 0 1 ∧ (R_x_hasRoom1X xfn xfp xen xkd xsta xpo xva xle tpf ttn xfn2 xfp2 xkd2 xsta2 xpo2 xva2 xle2 r) ∧ w = [(cO9_i1r1i2r1i1r2i4l1i2 h0 xtpd th xfn2 xfp2 tp xen nm nd xkd2 xsta2 xpo2 xva2 xle2 xtk xta), (cAB g tp 900 tpf), (cO8_iiri tt 4 1 ttc ttn), (cAI g ttc 4 ttf)]) := by
  refine cI.of (by decide) (Nat.le_of_ble_eq_true rfl) ?_
  intro p e s m args below meth c A X hr hi
  refine k_lveq [(0, .ref h0), (1, .ref tt)] rfl ?_
  refine k_aload_n X dX9_hasRoom_k0.1.1.1 1 rfl ?_
  refine k_callVI (n := 0) (As := []) (st := []) X [(cO8_iiri tt 4 1 ttc ttn)] [(cO9_i1r1i2r1i1r2i4l1i2 h0 xtpd th xfn xfp tp xen nm nd xkd xsta xpo xva xle xtk xta), (cAB g tp 900 tpf), (cAI g ttc 4 ttf)] [2] [0, 1, 3] (t_isFull l g tt 4 (.int 1) (.ref ttc) ttn) dX9_hasRoom_k0.1.1.2.1 mw343 mw344 mw345 mw64 mw346 rfl 8 rfl rfl 0 _ rfl yk_yX8_isFull_0 rfl (Nat.le_of_ble_eq_true rfl) (Nat.le_of_ble_eq_true rfl) (Nat.le_of_ble_eq_true rfl) (Nat.le_of_ble_eq_true rfl) (Nat.le_of_ble_eq_true rfl) rfl rfl (vnd_e rfl) rfl (vnd_e rfl) (dsj_e rfl) ?_
  rintro r_1 w ⟨hr_2, rfl⟩
  refine k_ws [(cO9_i1r1i2r1i1r2i4l1i2 h0 xtpd th xfn xfp tp xen nm nd xkd xsta xpo xva xle xtk xta), (cAB g tp 900 tpf), (cAI g ttc 4 ttf), (cO8_iiri tt 4 1 ttc ttn)] rfl ?_
  refine k_if_eq 17 X dX9_hasRoom_k0.1.1.2.2 (jp_e rfl) (fun h_3 => ?_) (fun h_3 => ?_)
  · skip
    have iv_4 : IV r_1 0 0 := iv_meet (iv_any r_1) (iv_e h_3 iq_0_0_0) (zle_o rfl) (zle_o rfl)
    refine k_aload_n X dX9_hasRoom_k0.2.2.1.1 0 rfl ?_
    refine k_callVV (n := 0) (As := []) (st := []) X [(cO9_i1r1i2r1i1r2i4l1i2 h0 xtpd th xfn xfp tp xen nm nd xkd xsta xpo xva xle xtk xta), (cAB g tp 900 tpf)] [(cAI g ttc 4 ttf), (cO8_iiri tt 4 1 ttc ttn)] [0, 1] [2, 3] (x_nextX l g h0 xtpd th xfn xfp tp xen nm nd xkd xsta xpo xva xle xtk xta tpf (iv_w hv_xen (zle_e rfl) (zle_e rfl)) (iv_w hv_xpo (zle_e rfl) (zle_e rfl))) dX9_hasRoom_k0.2.2.1.2 mw237 mw238 mw239 mw15 mw240 rfl 9 rfl rfl 0 _ rfl yk_yX9_next_0 rfl (Nat.le_of_ble_eq_true rfl) (Nat.le_of_ble_eq_true rfl) (Nat.le_of_ble_eq_true rfl) (Nat.le_of_ble_eq_true rfl) (Nat.le_of_ble_eq_true rfl) rfl rfl (vnd_e rfl) rfl (vnd_e rfl) (dsj_e rfl) ?_
    rintro w ⟨xkd2_5, xsta2_6, xpo2_7, xva2_8, xle2_9, iv_11, iv_12, iv_13, hq_14, rfl⟩
    refine k_ws [(cAI g ttc 4 ttf), (cO8_iiri tt 4 1 ttc ttn), (cO9_i1r1i2r1i1r2i4l1i2 h0 xtpd th xfn xfp tp xen nm nd xkd2_5 xsta2_6 xpo2_7 xva2_8 xle2_9 xtk xta), (cAB g tp 900 tpf)] rfl ?_
    refine k_iconst (v := 1) X dX9_hasRoom_k0.2.2.2.1 ic_1 ?_
    exact k_zret X hr (by first | rfl | decide) dX9_hasRoom_k0.2.2.2.2 (Nat.le_of_ble_eq_true rfl) (Nat.le_of_ble_eq_true rfl) [2, 3, 1, 0] (vnd_e rfl) rfl rfl (exI7 xfn xfp xkd2_5 xsta2_6 xpo2_7 xva2_8 xle2_9 ⟨(iv_w iv_11 (zle_e rfl) (zle_e rfl)), (iv_w iv_12 (zle_e rfl) (zle_e rfl)), (iv_w iq_1_1_1 (zle_e rfl) (zle_e rfl)), ⟨r_1, hr_2, (Or.inl ⟨h_3, (exI5 xkd2_5 xsta2_6 xpo2_7 xva2_8 xle2_9 ⟨hq_14, ⟨rfl, rfl, rfl, rfl, rfl, rfl, rfl, rfl⟩⟩)⟩)⟩, rfl⟩)
  · skip
    refine k_aload_n X dX9_hasRoom_k0.1.2.1 0 rfl ?_
    refine k_iconst (v := 5) X dX9_hasRoom_k0.1.2.2.1 ic_5 ?_
    refine k_aload_n X dX9_hasRoom_k0.1.2.2.2 0 rfl ?_
    refine k_get (ci := 9) X inlX9 rfl 9 (nlt_e rfl) dX9_hasRoom_k0.2.1.1 mw67 0 rfl rfl ?_
    refine k_callVI (n := 2) (As := [.int 5, .int xsta]) (st := []) X [(cO9_i1r1i2r1i1r2i4l1i2 h0 xtpd th xfn xfp tp xen nm nd xkd xsta xpo xva xle xtk xta), (cAB g tp 900 tpf)] [(cAI g ttc 4 ttf), (cO8_iiri tt 4 1 ttc ttn)] [0, 1] [2, 3] (x_refuseAtX l g h0 5 xsta xtpd th xfn xfp tp xen nm nd xkd xsta xpo xva xle xtk xta tpf) dX9_hasRoom_k0.2.1.2.1 mw309 mw310 mw311 mw15 mw312 rfl 9 rfl rfl 0 _ rfl yk_yX9_refuseAt_2 rfl (Nat.le_of_ble_eq_true rfl) (Nat.le_of_ble_eq_true rfl) (Nat.le_of_ble_eq_true rfl) (Nat.le_of_ble_eq_true rfl) (Nat.le_of_ble_eq_true rfl) rfl rfl (vnd_e rfl) rfl (vnd_e rfl) (dsj_e rfl) ?_
    rintro r_17 w ⟨xfn2_15, xfp2_16, iv_18, hq_19, rfl⟩
    refine k_ws [(cAI g ttc 4 ttf), (cO8_iiri tt 4 1 ttc ttn), (cO9_i1r1i2r1i1r2i4l1i2 h0 xtpd th xfn2_15 xfp2_16 tp xen nm nd xkd xsta xpo xva xle xtk xta), (cAB g tp 900 tpf)] rfl ?_
    exact k_zret X hr (zn_b (iv_w iv_18 (zle_e rfl) (zle_e rfl))) dX9_hasRoom_k0.2.1.2.2 (Nat.le_of_ble_eq_true rfl) (Nat.le_of_ble_eq_true rfl) [2, 3, 1, 0] (vnd_e rfl) rfl rfl (exI7 xfn2_15 xfp2_16 xkd xsta xpo xva xle ⟨(iv_w hv_xsta (zle_e rfl) (zle_e rfl)), (iv_w hv_xpo (zle_e rfl) (zle_e rfl)), (iv_w iv_18 (zle_e rfl) (zle_e rfl)), ⟨r_1, hr_2, (Or.inr ⟨h_3, ⟨xfn2_15, xfp2_16, r_17, hq_19, ⟨rfl, rfl, rfl, rfl, rfl, rfl, rfl, rfl⟩⟩⟩)⟩, rfl⟩)


set_option maxHeartbeats 4000000 in
set_option maxRecDepth 100000 in
theorem x_hasRoom2X (l : Launch) (g : Gx) (h0 : Nat) (tt : Nat) (xtpd : Int32) (th : Nat) (xfn : Int32) (xfp : Int32) (tp : Nat) (xen : Int32) (nm : Nat) (nd : Nat) (xkd : Int32) (xsta : Int32) (xpo : Int32) (xva : Int32) (xle : Int64) (xtk : Int32) (xta : Int32) (tpf : Nat → Int32) (ttc : Nat) (ttn : Int32) (ttf : Nat → Int32) (hv_xen : IV xen 0 900) (hv_xsta : IV xsta 0 900) (hv_xpo : IV xpo 0 900) : cI l g yX9_hasRoom cX9_hasRoom 2 (some .boolean) 2 42 0 0 [.ref h0, .ref tt] [(cO9_i1r1i2r1i1r2i4l1i2 h0 xtpd th xfn xfp tp xen nm nd xkd xsta xpo xva xle xtk xta), (cAB g tp 900 tpf), (cO8_iiri tt 12 3 ttc ttn), (cAI g ttc 36 ttf)] (fun r w => ∃ (xfn2 : Int32) (xfp2 : Int32) (xkd2 : Int32) (xsta2 : Int32) (xpo2 : Int32) (xva2 : Int32) (xle2 : Int64), IV xsta2 0 900 ∧ IV xpo2 0 900 ∧ IV r 0 1 ∧ (R_x_hasRoom2X xfn xfp xen xkd xsta xpo xva xle tpf ttn xfn2 xfp2 xkd2 xsta2 xpo2 xva2 xle2 r) ∧ w = [(cO9_i1r1i2r1i1r2i4l1i2 h0 xtpd th xfn2 xfp2 tp xen nm nd xkd2 xsta2 xpo2 xva2 xle2 xtk xta), (cAB g tp 900 tpf), (cO8_iiri tt 12 3 ttc ttn), (cAI g ttc 36 ttf)]) := by
  refine cI.of (by decide) (Nat.le_of_ble_eq_true rfl) ?_
  intro p e s m args below meth c A X hr hi
  refine k_lveq [(0, .ref h0), (1, .ref tt)] rfl ?_
  refine k_aload_n X dX9_hasRoom_k0.1.1.1 1 rfl ?_
  refine k_callVI (n := 0) (As := []) (st := []) X [(cO8_iiri tt 12 3 ttc ttn)] [(cO9_i1r1i2r1i1r2i4l1i2 h0 xtpd th xfn xfp tp xen nm nd xkd xsta xpo xva xle xtk xta), (cAB g tp 900 tpf), (cAI g ttc 36 ttf)] [2] [0, 1, 3] (t_isFull l g tt 12 (.int 3) (.ref ttc) ttn) dX9_hasRoom_k0.1.1.2.1 mw343 mw344 mw345 mw64 mw346 rfl 8 rfl rfl 0 _ rfl yk_yX8_isFull_0 rfl (Nat.le_of_ble_eq_true rfl) (Nat.le_of_ble_eq_true rfl) (Nat.le_of_ble_eq_true rfl) (Nat.le_of_ble_eq_true rfl) (Nat.le_of_ble_eq_true rfl) rfl rfl (vnd_e rfl) rfl (vnd_e rfl) (dsj_e rfl) ?_
  rintro r_1 w ⟨hr_2, rfl⟩
  refine k_ws [(cO9_i1r1i2r1i1r2i4l1i2 h0 xtpd th xfn xfp tp xen nm nd xkd xsta xpo xva xle xtk xta), (cAB g tp 900 tpf), (cAI g ttc 36 ttf), (cO8_iiri tt 12 3 ttc ttn)] rfl ?_
  refine k_if_eq 17 X dX9_hasRoom_k0.1.1.2.2 (jp_e rfl) (fun h_3 => ?_) (fun h_3 => ?_)
  · skip
    have iv_4 : IV r_1 0 0 := iv_meet (iv_any r_1) (iv_e h_3 iq_0_0_0) (zle_o rfl) (zle_o rfl)
    refine k_aload_n X dX9_hasRoom_k0.2.2.1.1 0 rfl ?_
    refine k_callVV (n := 0) (As := []) (st := []) X [(cO9_i1r1i2r1i1r2i4l1i2 h0 xtpd th xfn xfp tp xen nm nd xkd xsta xpo xva xle xtk xta), (cAB g tp 900 tpf)] [(cAI g ttc 36 ttf), (cO8_iiri tt 12 3 ttc ttn)] [0, 1] [2, 3] (x_nextX l g h0 xtpd th xfn xfp tp xen nm nd xkd xsta xpo xva xle xtk xta tpf (iv_w hv_xen (zle_e rfl) (zle_e rfl)) (iv_w hv_xpo (zle_e rfl) (zle_e rfl))) dX9_hasRoom_k0.2.2.1.2 mw237 mw238 mw239 mw15 mw240 rfl 9 rfl rfl 0 _ rfl yk_yX9_next_0 rfl (Nat.le_of_ble_eq_true rfl) (Nat.le_of_ble_eq_true rfl) (Nat.le_of_ble_eq_true rfl) (Nat.le_of_ble_eq_true rfl) (Nat.le_of_ble_eq_true rfl) rfl rfl (vnd_e rfl) rfl (vnd_e rfl) (dsj_e rfl) ?_
    rintro w ⟨xkd2_5, xsta2_6, xpo2_7, xva2_8, xle2_9, iv_11, iv_12, iv_13, hq_14, rfl⟩
    refine k_ws [(cAI g ttc 36 ttf), (cO8_iiri tt 12 3 ttc ttn), (cO9_i1r1i2r1i1r2i4l1i2 h0 xtpd th xfn xfp tp xen nm nd xkd2_5 xsta2_6 xpo2_7 xva2_8 xle2_9 xtk xta), (cAB g tp 900 tpf)] rfl ?_
    refine k_iconst (v := 1) X dX9_hasRoom_k0.2.2.2.1 ic_1 ?_
    exact k_zret X hr (by first | rfl | decide) dX9_hasRoom_k0.2.2.2.2 (Nat.le_of_ble_eq_true rfl) (Nat.le_of_ble_eq_true rfl) [2, 3, 1, 0] (vnd_e rfl) rfl rfl (exI7 xfn xfp xkd2_5 xsta2_6 xpo2_7 xva2_8 xle2_9 ⟨(iv_w iv_11 (zle_e rfl) (zle_e rfl)), (iv_w iv_12 (zle_e rfl) (zle_e rfl)), (iv_w iq_1_1_1 (zle_e rfl) (zle_e rfl)), ⟨r_1, hr_2, (Or.inl ⟨h_3, (exI5 xkd2_5 xsta2_6 xpo2_7 xva2_8 xle2_9 ⟨hq_14, ⟨rfl, rfl, rfl, rfl, rfl, rfl, rfl, rfl⟩⟩)⟩)⟩, rfl⟩)
  · skip
    refine k_aload_n X dX9_hasRoom_k0.1.2.1 0 rfl ?_
    refine k_iconst (v := 5) X dX9_hasRoom_k0.1.2.2.1 ic_5 ?_
    refine k_aload_n X dX9_hasRoom_k0.1.2.2.2 0 rfl ?_
    refine k_get (ci := 9) X inlX9 rfl 9 (nlt_e rfl) dX9_hasRoom_k0.2.1.1 mw67 0 rfl rfl ?_
    refine k_callVI (n := 2) (As := [.int 5, .int xsta]) (st := []) X [(cO9_i1r1i2r1i1r2i4l1i2 h0 xtpd th xfn xfp tp xen nm nd xkd xsta xpo xva xle xtk xta), (cAB g tp 900 tpf)] [(cAI g ttc 36 ttf), (cO8_iiri tt 12 3 ttc ttn)] [0, 1] [2, 3] (x_refuseAtX l g h0 5 xsta xtpd th xfn xfp tp xen nm nd xkd xsta xpo xva xle xtk xta tpf) dX9_hasRoom_k0.2.1.2.1 mw309 mw310 mw311 mw15 mw312 rfl 9 rfl rfl 0 _ rfl yk_yX9_refuseAt_2 rfl (Nat.le_of_ble_eq_true rfl) (Nat.le_of_ble_eq_true rfl) (Nat.le_of_ble_eq_true rfl) (Nat.le_of_ble_eq_true rfl) (Nat.le_of_ble_eq_true rfl) rfl rfl (vnd_e rfl) rfl (vnd_e rfl) (dsj_e rfl) ?_
    rintro r_17 w ⟨xfn2_15, xfp2_16, iv_18, hq_19, rfl⟩
    refine k_ws [(cAI g ttc 36 ttf), (cO8_iiri tt 12 3 ttc ttn), (cO9_i1r1i2r1i1r2i4l1i2 h0 xtpd th xfn2_15 xfp2_16 tp xen nm nd xkd xsta xpo xva xle xtk xta), (cAB g tp 900 tpf)] rfl ?_
    exact k_zret X hr (zn_b (iv_w iv_18 (zle_e rfl) (zle_e rfl))) dX9_hasRoom_k0.2.1.2.2 (Nat.le_of_ble_eq_true rfl) (Nat.le_of_ble_eq_true rfl) [2, 3, 1, 0] (vnd_e rfl) rfl rfl (exI7 xfn2_15 xfp2_16 xkd xsta xpo xva xle ⟨(iv_w hv_xsta (zle_e rfl) (zle_e rfl)), (iv_w hv_xpo (zle_e rfl) (zle_e rfl)), (iv_w iv_18 (zle_e rfl) (zle_e rfl)), ⟨r_1, hr_2, (Or.inr ⟨h_3, ⟨xfn2_15, xfp2_16, r_17, hq_19, ⟨rfl, rfl, rfl, rfl, rfl, rfl, rfl, rfl⟩⟩⟩)⟩, rfl⟩)


set_option maxHeartbeats 4000000 in
set_option maxRecDepth 100000 in
theorem x_hasRoom3X (l : Launch) (g : Gx) (h0 : Nat) (tt : Nat) (xtpd : Int32) (th : Nat) (xfn : Int32) (xfp : Int32) (tp : Nat) (xen : Int32) (nm : Nat) (nd : Nat) (xkd : Int32) (xsta : Int32) (xpo : Int32) (xva : Int32) (xle : Int64) (xtk : Int32) (xta : Int32) (tpf : Nat → Int32) (ttc : Nat) (ttn : Int32) (ttf : Nat → Int32) (hv_xen : IV xen 0 900) (hv_xsta : IV xsta 0 900) (hv_xpo : IV xpo 0 900) : cI l g yX9_hasRoom cX9_hasRoom 2 (some .boolean) 2 42 0 0 [.ref h0, .ref tt] [(cO9_i1r1i2r1i1r2i4l1i2 h0 xtpd th xfn xfp tp xen nm nd xkd xsta xpo xva xle xtk xta), (cAB g tp 900 tpf), (cO8_iiri tt 8 2 ttc ttn), (cAI g ttc 16 ttf)] (fun r w => ∃ (xfn2 : Int32) (xfp2 : Int32) (xkd2 : Int32) (xsta2 : Int32) (xpo2 : Int32) (xva2 : Int32) (xle2 : Int64), IV xsta2 0 900 ∧ IV xpo2 0 900 ∧ IV r 0 1 ∧ (R_x_hasRoom3X xfn xfp xen xkd xsta xpo xva xle tpf ttn xfn2 xfp2 xkd2 xsta2 xpo2 xva2 xle2 r) ∧ w = [(cO9_i1r1i2r1i1r2i4l1i2 h0 xtpd th xfn2 xfp2 tp xen nm nd xkd2 xsta2 xpo2 xva2 xle2 xtk xta), (cAB g tp 900 tpf), (cO8_iiri tt 8 2 ttc ttn), (cAI g ttc 16 ttf)]) := by
  refine cI.of (by decide) (Nat.le_of_ble_eq_true rfl) ?_
  intro p e s m args below meth c A X hr hi
  refine k_lveq [(0, .ref h0), (1, .ref tt)] rfl ?_
  refine k_aload_n X dX9_hasRoom_k0.1.1.1 1 rfl ?_
  refine k_callVI (n := 0) (As := []) (st := []) X [(cO8_iiri tt 8 2 ttc ttn)] [(cO9_i1r1i2r1i1r2i4l1i2 h0 xtpd th xfn xfp tp xen nm nd xkd xsta xpo xva xle xtk xta), (cAB g tp 900 tpf), (cAI g ttc 16 ttf)] [2] [0, 1, 3] (t_isFull l g tt 8 (.int 2) (.ref ttc) ttn) dX9_hasRoom_k0.1.1.2.1 mw343 mw344 mw345 mw64 mw346 rfl 8 rfl rfl 0 _ rfl yk_yX8_isFull_0 rfl (Nat.le_of_ble_eq_true rfl) (Nat.le_of_ble_eq_true rfl) (Nat.le_of_ble_eq_true rfl) (Nat.le_of_ble_eq_true rfl) (Nat.le_of_ble_eq_true rfl) rfl rfl (vnd_e rfl) rfl (vnd_e rfl) (dsj_e rfl) ?_
  rintro r_1 w ⟨hr_2, rfl⟩
  refine k_ws [(cO9_i1r1i2r1i1r2i4l1i2 h0 xtpd th xfn xfp tp xen nm nd xkd xsta xpo xva xle xtk xta), (cAB g tp 900 tpf), (cAI g ttc 16 ttf), (cO8_iiri tt 8 2 ttc ttn)] rfl ?_
  refine k_if_eq 17 X dX9_hasRoom_k0.1.1.2.2 (jp_e rfl) (fun h_3 => ?_) (fun h_3 => ?_)
  · skip
    have iv_4 : IV r_1 0 0 := iv_meet (iv_any r_1) (iv_e h_3 iq_0_0_0) (zle_o rfl) (zle_o rfl)
    refine k_aload_n X dX9_hasRoom_k0.2.2.1.1 0 rfl ?_
    refine k_callVV (n := 0) (As := []) (st := []) X [(cO9_i1r1i2r1i1r2i4l1i2 h0 xtpd th xfn xfp tp xen nm nd xkd xsta xpo xva xle xtk xta), (cAB g tp 900 tpf)] [(cAI g ttc 16 ttf), (cO8_iiri tt 8 2 ttc ttn)] [0, 1] [2, 3] (x_nextX l g h0 xtpd th xfn xfp tp xen nm nd xkd xsta xpo xva xle xtk xta tpf (iv_w hv_xen (zle_e rfl) (zle_e rfl)) (iv_w hv_xpo (zle_e rfl) (zle_e rfl))) dX9_hasRoom_k0.2.2.1.2 mw237 mw238 mw239 mw15 mw240 rfl 9 rfl rfl 0 _ rfl yk_yX9_next_0 rfl (Nat.le_of_ble_eq_true rfl) (Nat.le_of_ble_eq_true rfl) (Nat.le_of_ble_eq_true rfl) (Nat.le_of_ble_eq_true rfl) (Nat.le_of_ble_eq_true rfl) rfl rfl (vnd_e rfl) rfl (vnd_e rfl) (dsj_e rfl) ?_
    rintro w ⟨xkd2_5, xsta2_6, xpo2_7, xva2_8, xle2_9, iv_11, iv_12, iv_13, hq_14, rfl⟩
    refine k_ws [(cAI g ttc 16 ttf), (cO8_iiri tt 8 2 ttc ttn), (cO9_i1r1i2r1i1r2i4l1i2 h0 xtpd th xfn xfp tp xen nm nd xkd2_5 xsta2_6 xpo2_7 xva2_8 xle2_9 xtk xta), (cAB g tp 900 tpf)] rfl ?_
    refine k_iconst (v := 1) X dX9_hasRoom_k0.2.2.2.1 ic_1 ?_
    exact k_zret X hr (by first | rfl | decide) dX9_hasRoom_k0.2.2.2.2 (Nat.le_of_ble_eq_true rfl) (Nat.le_of_ble_eq_true rfl) [2, 3, 1, 0] (vnd_e rfl) rfl rfl (exI7 xfn xfp xkd2_5 xsta2_6 xpo2_7 xva2_8 xle2_9 ⟨(iv_w iv_11 (zle_e rfl) (zle_e rfl)), (iv_w iv_12 (zle_e rfl) (zle_e rfl)), (iv_w iq_1_1_1 (zle_e rfl) (zle_e rfl)), ⟨r_1, hr_2, (Or.inl ⟨h_3, (exI5 xkd2_5 xsta2_6 xpo2_7 xva2_8 xle2_9 ⟨hq_14, ⟨rfl, rfl, rfl, rfl, rfl, rfl, rfl, rfl⟩⟩)⟩)⟩, rfl⟩)
  · skip
    refine k_aload_n X dX9_hasRoom_k0.1.2.1 0 rfl ?_
    refine k_iconst (v := 5) X dX9_hasRoom_k0.1.2.2.1 ic_5 ?_
    refine k_aload_n X dX9_hasRoom_k0.1.2.2.2 0 rfl ?_
    refine k_get (ci := 9) X inlX9 rfl 9 (nlt_e rfl) dX9_hasRoom_k0.2.1.1 mw67 0 rfl rfl ?_
    refine k_callVI (n := 2) (As := [.int 5, .int xsta]) (st := []) X [(cO9_i1r1i2r1i1r2i4l1i2 h0 xtpd th xfn xfp tp xen nm nd xkd xsta xpo xva xle xtk xta), (cAB g tp 900 tpf)] [(cAI g ttc 16 ttf), (cO8_iiri tt 8 2 ttc ttn)] [0, 1] [2, 3] (x_refuseAtX l g h0 5 xsta xtpd th xfn xfp tp xen nm nd xkd xsta xpo xva xle xtk xta tpf) dX9_hasRoom_k0.2.1.2.1 mw309 mw310 mw311 mw15 mw312 rfl 9 rfl rfl 0 _ rfl yk_yX9_refuseAt_2 rfl (Nat.le_of_ble_eq_true rfl) (Nat.le_of_ble_eq_true rfl) (Nat.le_of_ble_eq_true rfl) (Nat.le_of_ble_eq_true rfl) (Nat.le_of_ble_eq_true rfl) rfl rfl (vnd_e rfl) rfl (vnd_e rfl) (dsj_e rfl) ?_
    rintro r_17 w ⟨xfn2_15, xfp2_16, iv_18, hq_19, rfl⟩
    refine k_ws [(cAI g ttc 16 ttf), (cO8_iiri tt 8 2 ttc ttn), (cO9_i1r1i2r1i1r2i4l1i2 h0 xtpd th xfn2_15 xfp2_16 tp xen nm nd xkd xsta xpo xva xle xtk xta), (cAB g tp 900 tpf)] rfl ?_
    exact k_zret X hr (zn_b (iv_w iv_18 (zle_e rfl) (zle_e rfl))) dX9_hasRoom_k0.2.1.2.2 (Nat.le_of_ble_eq_true rfl) (Nat.le_of_ble_eq_true rfl) [2, 3, 1, 0] (vnd_e rfl) rfl rfl (exI7 xfn2_15 xfp2_16 xkd xsta xpo xva xle ⟨(iv_w hv_xsta (zle_e rfl) (zle_e rfl)), (iv_w hv_xpo (zle_e rfl) (zle_e rfl)), (iv_w iv_18 (zle_e rfl) (zle_e rfl)), ⟨r_1, hr_2, (Or.inr ⟨h_3, ⟨xfn2_15, xfp2_16, r_17, hq_19, ⟨rfl, rfl, rfl, rfl, rfl, rfl, rfl, rfl⟩⟩⟩)⟩, rfl⟩)


set_option maxHeartbeats 4000000 in
set_option maxRecDepth 100000 in
theorem x_hasRoom4X (l : Launch) (g : Gx) (h0 : Nat) (tt : Nat) (xtpd : Int32) (th : Nat) (xfn : Int32) (xfp : Int32) (tp : Nat) (xen : Int32) (nm : Nat) (nd : Nat) (xkd : Int32) (xsta : Int32) (xpo : Int32) (xva : Int32) (xle : Int64) (xtk : Int32) (xta : Int32) (tpf : Nat → Int32) (ttc : Nat) (ttn : Int32) (ttf : Nat → Int32) (hv_xen : IV xen 0 900) (hv_xsta : IV xsta 0 900) (hv_xpo : IV xpo 0 900) : cI l g yX9_hasRoom cX9_hasRoom 2 (some .boolean) 2 42 0 0 [.ref h0, .ref tt] [(cO9_i1r1i2r1i1r2i4l1i2 h0 xtpd th xfn xfp tp xen nm nd xkd xsta xpo xva xle xtk xta), (cAB g tp 900 tpf), (cO8_iiri tt 6 3 ttc ttn), (cAI g ttc 18 ttf)] (fun r w => ∃ (xfn2 : Int32) (xfp2 : Int32) (xkd2 : Int32) (xsta2 : Int32) (xpo2 : Int32) (xva2 : Int32) (xle2 : Int64), IV xsta2 0 900 ∧ IV xpo2 0 900 ∧ IV r 0 1 ∧ (R_x_hasRoom4X xfn xfp xen xkd xsta xpo xva xle tpf ttn xfn2 xfp2 xkd2 xsta2 xpo2 xva2 xle2 r) ∧ w = [(cO9_i1r1i2r1i1r2i4l1i2 h0 xtpd th xfn2 xfp2 tp xen nm nd xkd2 xsta2 xpo2 xva2 xle2 xtk xta), (cAB g tp 900 tpf), (cO8_iiri tt 6 3 ttc ttn), (cAI g ttc 18 ttf)]) := by
  refine cI.of (by decide) (Nat.le_of_ble_eq_true rfl) ?_
  intro p e s m args below meth c A X hr hi
  refine k_lveq [(0, .ref h0), (1, .ref tt)] rfl ?_
  refine k_aload_n X dX9_hasRoom_k0.1.1.1 1 rfl ?_
  refine k_callVI (n := 0) (As := []) (st := []) X [(cO8_iiri tt 6 3 ttc ttn)] [(cO9_i1r1i2r1i1r2i4l1i2 h0 xtpd th xfn xfp tp xen nm nd xkd xsta xpo xva xle xtk xta), (cAB g tp 900 tpf), (cAI g ttc 18 ttf)] [2] [0, 1, 3] (t_isFull l g tt 6 (.int 3) (.ref ttc) ttn) dX9_hasRoom_k0.1.1.2.1 mw343 mw344 mw345 mw64 mw346 rfl 8 rfl rfl 0 _ rfl yk_yX8_isFull_0 rfl (Nat.le_of_ble_eq_true rfl) (Nat.le_of_ble_eq_true rfl) (Nat.le_of_ble_eq_true rfl) (Nat.le_of_ble_eq_true rfl) (Nat.le_of_ble_eq_true rfl) rfl rfl (vnd_e rfl) rfl (vnd_e rfl) (dsj_e rfl) ?_
  rintro r_1 w ⟨hr_2, rfl⟩
  refine k_ws [(cO9_i1r1i2r1i1r2i4l1i2 h0 xtpd th xfn xfp tp xen nm nd xkd xsta xpo xva xle xtk xta), (cAB g tp 900 tpf), (cAI g ttc 18 ttf), (cO8_iiri tt 6 3 ttc ttn)] rfl ?_
  refine k_if_eq 17 X dX9_hasRoom_k0.1.1.2.2 (jp_e rfl) (fun h_3 => ?_) (fun h_3 => ?_)
  · skip
    have iv_4 : IV r_1 0 0 := iv_meet (iv_any r_1) (iv_e h_3 iq_0_0_0) (zle_o rfl) (zle_o rfl)
    refine k_aload_n X dX9_hasRoom_k0.2.2.1.1 0 rfl ?_
    refine k_callVV (n := 0) (As := []) (st := []) X [(cO9_i1r1i2r1i1r2i4l1i2 h0 xtpd th xfn xfp tp xen nm nd xkd xsta xpo xva xle xtk xta), (cAB g tp 900 tpf)] [(cAI g ttc 18 ttf), (cO8_iiri tt 6 3 ttc ttn)] [0, 1] [2, 3] (x_nextX l g h0 xtpd th xfn xfp tp xen nm nd xkd xsta xpo xva xle xtk xta tpf (iv_w hv_xen (zle_e rfl) (zle_e rfl)) (iv_w hv_xpo (zle_e rfl) (zle_e rfl))) dX9_hasRoom_k0.2.2.1.2 mw237 mw238 mw239 mw15 mw240 rfl 9 rfl rfl 0 _ rfl yk_yX9_next_0 rfl (Nat.le_of_ble_eq_true rfl) (Nat.le_of_ble_eq_true rfl) (Nat.le_of_ble_eq_true rfl) (Nat.le_of_ble_eq_true rfl) (Nat.le_of_ble_eq_true rfl) rfl rfl (vnd_e rfl) rfl (vnd_e rfl) (dsj_e rfl) ?_
    rintro w ⟨xkd2_5, xsta2_6, xpo2_7, xva2_8, xle2_9, iv_11, iv_12, iv_13, hq_14, rfl⟩
    refine k_ws [(cAI g ttc 18 ttf), (cO8_iiri tt 6 3 ttc ttn), (cO9_i1r1i2r1i1r2i4l1i2 h0 xtpd th xfn xfp tp xen nm nd xkd2_5 xsta2_6 xpo2_7 xva2_8 xle2_9 xtk xta), (cAB g tp 900 tpf)] rfl ?_
    refine k_iconst (v := 1) X dX9_hasRoom_k0.2.2.2.1 ic_1 ?_
    exact k_zret X hr (by first | rfl | decide) dX9_hasRoom_k0.2.2.2.2 (Nat.le_of_ble_eq_true rfl) (Nat.le_of_ble_eq_true rfl) [2, 3, 1, 0] (vnd_e rfl) rfl rfl (exI7 xfn xfp xkd2_5 xsta2_6 xpo2_7 xva2_8 xle2_9 ⟨(iv_w iv_11 (zle_e rfl) (zle_e rfl)), (iv_w iv_12 (zle_e rfl) (zle_e rfl)), (iv_w iq_1_1_1 (zle_e rfl) (zle_e rfl)), ⟨r_1, hr_2, (Or.inl ⟨h_3, (exI5 xkd2_5 xsta2_6 xpo2_7 xva2_8 xle2_9 ⟨hq_14, ⟨rfl, rfl, rfl, rfl, rfl, rfl, rfl, rfl⟩⟩)⟩)⟩, rfl⟩)
  · skip
    refine k_aload_n X dX9_hasRoom_k0.1.2.1 0 rfl ?_
    refine k_iconst (v := 5) X dX9_hasRoom_k0.1.2.2.1 ic_5 ?_
    refine k_aload_n X dX9_hasRoom_k0.1.2.2.2 0 rfl ?_
    refine k_get (ci := 9) X inlX9 rfl 9 (nlt_e rfl) dX9_hasRoom_k0.2.1.1 mw67 0 rfl rfl ?_
    refine k_callVI (n := 2) (As := [.int 5, .int xsta]) (st := []) X [(cO9_i1r1i2r1i1r2i4l1i2 h0 xtpd th xfn xfp tp xen nm nd xkd xsta xpo xva xle xtk xta), (cAB g tp 900 tpf)] [(cAI g ttc 18 ttf), (cO8_iiri tt 6 3 ttc ttn)] [0, 1] [2, 3] (x_refuseAtX l g h0 5 xsta xtpd th xfn xfp tp xen nm nd xkd xsta xpo xva xle xtk xta tpf) dX9_hasRoom_k0.2.1.2.1 mw309 mw310 mw311 mw15 mw312 rfl 9 rfl rfl 0 _ rfl yk_yX9_refuseAt_2 rfl (Nat.le_of_ble_eq_true rfl) (Nat.le_of_ble_eq_true rfl) (Nat.le_of_ble_eq_true rfl) (Nat.le_of_ble_eq_true rfl) (Nat.le_of_ble_eq_true rfl) rfl rfl (vnd_e rfl) rfl (vnd_e rfl) (dsj_e rfl) ?_
    rintro r_17 w ⟨xfn2_15, xfp2_16, iv_18, hq_19, rfl⟩
    refine k_ws [(cAI g ttc 18 ttf), (cO8_iiri tt 6 3 ttc ttn), (cO9_i1r1i2r1i1r2i4l1i2 h0 xtpd th xfn2_15 xfp2_16 tp xen nm nd xkd xsta xpo xva xle xtk xta), (cAB g tp 900 tpf)] rfl ?_
    exact k_zret X hr (zn_b (iv_w iv_18 (zle_e rfl) (zle_e rfl))) dX9_hasRoom_k0.2.1.2.2 (Nat.le_of_ble_eq_true rfl) (Nat.le_of_ble_eq_true rfl) [2, 3, 1, 0] (vnd_e rfl) rfl rfl (exI7 xfn2_15 xfp2_16 xkd xsta xpo xva xle ⟨(iv_w hv_xsta (zle_e rfl) (zle_e rfl)), (iv_w hv_xpo (zle_e rfl) (zle_e rfl)), (iv_w iv_18 (zle_e rfl) (zle_e rfl)), ⟨r_1, hr_2, (Or.inr ⟨h_3, ⟨xfn2_15, xfp2_16, r_17, hq_19, ⟨rfl, rfl, rfl, rfl, rfl, rfl, rfl, rfl⟩⟩⟩)⟩, rfl⟩)


set_option maxHeartbeats 4000000 in
set_option maxRecDepth 100000 in
theorem x_hasRoom5X (l : Launch) (g : Gx) (h0 : Nat) (tt : Nat) (xtpd : Int32) (th : Nat) (xfn : Int32) (xfp : Int32) (tp : Nat) (xen : Int32) (nm : Nat) (nd : Nat) (xkd : Int32) (xsta : Int32) (xpo : Int32) (xva : Int32) (xle : Int64) (xtk : Int32) (xta : Int32) (tpf : Nat → Int32) (ttc : Nat) (ttn : Int32) (ttf : Nat → Int32) (hv_xen : IV xen 0 900) (hv_xsta : IV xsta 0 900) (hv_xpo : IV xpo 0 900) : cI l g yX9_hasRoom cX9_hasRoom 2 (some .boolean) 2 42 0 0 [.ref h0, .ref tt] [(cO9_i1r1i2r1i1r2i4l1i2 h0 xtpd th xfn xfp tp xen nm nd xkd xsta xpo xva xle xtk xta), (cAB g tp 900 tpf), (cO8_iiri tt 4 3 ttc ttn), (cAI g ttc 12 ttf)] (fun r w => ∃ (xfn2 : Int32) (xfp2 : Int32) (xkd2 : Int32) (xsta2 : Int32) (xpo2 : Int32) (xva2 : Int32) (xle2 : Int64), IV xsta2 0 900 ∧ IV xpo2 0 900 ∧ IV r 0 1 ∧ (R_x_hasRoom5X xfn xfp xen xkd xsta xpo xva xle tpf ttn xfn2 xfp2 xkd2 xsta2 xpo2 xva2 xle2 r) ∧ w = [(cO9_i1r1i2r1i1r2i4l1i2 h0 xtpd th xfn2 xfp2 tp xen nm nd xkd2 xsta2 xpo2 xva2 xle2 xtk xta), (cAB g tp 900 tpf), (cO8_iiri tt 4 3 ttc ttn), (cAI g ttc 12 ttf)]) := by
  refine cI.of (by decide) (Nat.le_of_ble_eq_true rfl) ?_
  intro p e s m args below meth c A X hr hi
  refine k_lveq [(0, .ref h0), (1, .ref tt)] rfl ?_
  refine k_aload_n X dX9_hasRoom_k0.1.1.1 1 rfl ?_
  refine k_callVI (n := 0) (As := []) (st := []) X [(cO8_iiri tt 4 3 ttc ttn)] [(cO9_i1r1i2r1i1r2i4l1i2 h0 xtpd th xfn xfp tp xen nm nd xkd xsta xpo xva xle xtk xta), (cAB g tp 900 tpf), (cAI g ttc 12 ttf)] [2] [0, 1, 3] (t_isFull l g tt 4 (.int 3) (.ref ttc) ttn) dX9_hasRoom_k0.1.1.2.1 mw343 mw344 mw345 mw64 mw346 rfl 8 rfl rfl 0 _ rfl yk_yX8_isFull_0 rfl (Nat.le_of_ble_eq_true rfl) (Nat.le_of_ble_eq_true rfl) (Nat.le_of_ble_eq_true rfl) (Nat.le_of_ble_eq_true rfl) (Nat.le_of_ble_eq_true rfl) rfl rfl (vnd_e rfl) rfl (vnd_e rfl) (dsj_e rfl) ?_
  rintro r_1 w ⟨hr_2, rfl⟩
  refine k_ws [(cO9_i1r1i2r1i1r2i4l1i2 h0 xtpd th xfn xfp tp xen nm nd xkd xsta xpo xva xle xtk xta), (cAB g tp 900 tpf), (cAI g ttc 12 ttf), (cO8_iiri tt 4 3 ttc ttn)] rfl ?_
  refine k_if_eq 17 X dX9_hasRoom_k0.1.1.2.2 (jp_e rfl) (fun h_3 => ?_) (fun h_3 => ?_)
  · skip
    have iv_4 : IV r_1 0 0 := iv_meet (iv_any r_1) (iv_e h_3 iq_0_0_0) (zle_o rfl) (zle_o rfl)
    refine k_aload_n X dX9_hasRoom_k0.2.2.1.1 0 rfl ?_
    refine k_callVV (n := 0) (As := []) (st := []) X [(cO9_i1r1i2r1i1r2i4l1i2 h0 xtpd th xfn xfp tp xen nm nd xkd xsta xpo xva xle xtk xta), (cAB g tp 900 tpf)] [(cAI g ttc 12 ttf), (cO8_iiri tt 4 3 ttc ttn)] [0, 1] [2, 3] (x_nextX l g h0 xtpd th xfn xfp tp xen nm nd xkd xsta xpo xva xle xtk xta tpf (iv_w hv_xen (zle_e rfl) (zle_e rfl)) (iv_w hv_xpo (zle_e rfl) (zle_e rfl))) dX9_hasRoom_k0.2.2.1.2 mw237 mw238 mw239 mw15 mw240 rfl 9 rfl rfl 0 _ rfl yk_yX9_next_0 rfl (Nat.le_of_ble_eq_true rfl) (Nat.le_of_ble_eq_true rfl) (Nat.le_of_ble_eq_true rfl) (Nat.le_of_ble_eq_true rfl) (Nat.le_of_ble_eq_true rfl) rfl rfl (vnd_e rfl) rfl (vnd_e rfl) (dsj_e rfl) ?_
    rintro w ⟨xkd2_5, xsta2_6, xpo2_7, xva2_8, xle2_9, iv_11, iv_12, iv_13, hq_14, rfl⟩
    refine k_ws [(cAI g ttc 12 ttf), (cO8_iiri tt 4 3 ttc ttn), (cO9_i1r1i2r1i1r2i4l1i2 h0 xtpd th xfn xfp tp xen nm nd xkd2_5 xsta2_6 xpo2_7 xva2_8 xle2_9 xtk xta), (cAB g tp 900 tpf)] rfl ?_
    refine k_iconst (v := 1) X dX9_hasRoom_k0.2.2.2.1 ic_1 ?_
    exact k_zret X hr (by first | rfl | decide) dX9_hasRoom_k0.2.2.2.2 (Nat.le_of_ble_eq_true rfl) (Nat.le_of_ble_eq_true rfl) [2, 3, 1, 0] (vnd_e rfl) rfl rfl (exI7 xfn xfp xkd2_5 xsta2_6 xpo2_7 xva2_8 xle2_9 ⟨(iv_w iv_11 (zle_e rfl) (zle_e rfl)), (iv_w iv_12 (zle_e rfl) (zle_e rfl)), (iv_w iq_1_1_1 (zle_e rfl) (zle_e rfl)), ⟨r_1, hr_2, (Or.inl ⟨h_3, (exI5 xkd2_5 xsta2_6 xpo2_7 xva2_8 xle2_9 ⟨hq_14, ⟨rfl, rfl, rfl, rfl, rfl, rfl, rfl, rfl⟩⟩)⟩)⟩, rfl⟩)
  · skip
    refine k_aload_n X dX9_hasRoom_k0.1.2.1 0 rfl ?_
    refine k_iconst (v := 5) X dX9_hasRoom_k0.1.2.2.1 ic_5 ?_
    refine k_aload_n X dX9_hasRoom_k0.1.2.2.2 0 rfl ?_
    refine k_get (ci := 9) X inlX9 rfl 9 (nlt_e rfl) dX9_hasRoom_k0.2.1.1 mw67 0 rfl rfl ?_
    refine k_callVI (n := 2) (As := [.int 5, .int xsta]) (st := []) X [(cO9_i1r1i2r1i1r2i4l1i2 h0 xtpd th xfn xfp tp xen nm nd xkd xsta xpo xva xle xtk xta), (cAB g tp 900 tpf)] [(cAI g ttc 12 ttf), (cO8_iiri tt 4 3 ttc ttn)] [0, 1] [2, 3] (x_refuseAtX l g h0 5 xsta xtpd th xfn xfp tp xen nm nd xkd xsta xpo xva xle xtk xta tpf) dX9_hasRoom_k0.2.1.2.1 mw309 mw310 mw311 mw15 mw312 rfl 9 rfl rfl 0 _ rfl yk_yX9_refuseAt_2 rfl (Nat.le_of_ble_eq_true rfl) (Nat.le_of_ble_eq_true rfl) (Nat.le_of_ble_eq_true rfl) (Nat.le_of_ble_eq_true rfl) (Nat.le_of_ble_eq_true rfl) rfl rfl (vnd_e rfl) rfl (vnd_e rfl) (dsj_e rfl) ?_
    rintro r_17 w ⟨xfn2_15, xfp2_16, iv_18, hq_19, rfl⟩
    refine k_ws [(cAI g ttc 12 ttf), (cO8_iiri tt 4 3 ttc ttn), (cO9_i1r1i2r1i1r2i4l1i2 h0 xtpd th xfn2_15 xfp2_16 tp xen nm nd xkd xsta xpo xva xle xtk xta), (cAB g tp 900 tpf)] rfl ?_
    exact k_zret X hr (zn_b (iv_w iv_18 (zle_e rfl) (zle_e rfl))) dX9_hasRoom_k0.2.1.2.2 (Nat.le_of_ble_eq_true rfl) (Nat.le_of_ble_eq_true rfl) [2, 3, 1, 0] (vnd_e rfl) rfl rfl (exI7 xfn2_15 xfp2_16 xkd xsta xpo xva xle ⟨(iv_w hv_xsta (zle_e rfl) (zle_e rfl)), (iv_w hv_xpo (zle_e rfl) (zle_e rfl)), (iv_w iv_18 (zle_e rfl) (zle_e rfl)), ⟨r_1, hr_2, (Or.inr ⟨h_3, ⟨xfn2_15, xfp2_16, r_17, hq_19, ⟨rfl, rfl, rfl, rfl, rfl, rfl, rfl, rfl⟩⟩⟩)⟩, rfl⟩)


set_option maxHeartbeats 4000000 in
set_option maxRecDepth 100000 in
theorem x_hasRoom6X (l : Launch) (g : Gx) (h0 : Nat) (tt : Nat) (xtpd : Int32) (th : Nat) (xfn : Int32) (xfp : Int32) (tp : Nat) (xen : Int32) (nm : Nat) (nd : Nat) (xkd : Int32) (xsta : Int32) (xpo : Int32) (xva : Int32) (xle : Int64) (xtk : Int32) (xta : Int32) (tpf : Nat → Int32) (ttc : Nat) (ttn : Int32) (ttf : Nat → Int32) (hv_xen : IV xen 0 900) (hv_xsta : IV xsta 0 900) (hv_xpo : IV xpo 0 900) : cI l g yX9_hasRoom cX9_hasRoom 2 (some .boolean) 2 42 0 0 [.ref h0, .ref tt] [(cO9_i1r1i2r1i1r2i4l1i2 h0 xtpd th xfn xfp tp xen nm nd xkd xsta xpo xva xle xtk xta), (cAB g tp 900 tpf), (cO8_iiri tt 6 2 ttc ttn), (cAI g ttc 12 ttf)] (fun r w => ∃ (xfn2 : Int32) (xfp2 : Int32) (xkd2 : Int32) (xsta2 : Int32) (xpo2 : Int32) (xva2 : Int32) (xle2 : Int64), IV xsta2 0 900 ∧ IV xpo2 0 900 ∧ IV r 0 1 ∧ (R_x_hasRoom6X xfn xfp xen xkd xsta xpo xva xle tpf ttn xfn2 xfp2 xkd2 xsta2 xpo2 xva2 xle2 r) ∧ w = [(cO9_i1r1i2r1i1r2i4l1i2 h0 xtpd th xfn2 xfp2 tp xen nm nd xkd2 xsta2 xpo2 xva2 xle2 xtk xta), (cAB g tp 900 tpf), (cO8_iiri tt 6 2 ttc ttn), (cAI g ttc 12 ttf)]) := by
  refine cI.of (by decide) (Nat.le_of_ble_eq_true rfl) ?_
  intro p e s m args below meth c A X hr hi
  refine k_lveq [(0, .ref h0), (1, .ref tt)] rfl ?_
  refine k_aload_n X dX9_hasRoom_k0.1.1.1 1 rfl ?_
  refine k_callVI (n := 0) (As := []) (st := []) X [(cO8_iiri tt 6 2 ttc ttn)] [(cO9_i1r1i2r1i1r2i4l1i2 h0 xtpd th xfn xfp tp xen nm nd xkd xsta xpo xva xle xtk xta), (cAB g tp 900 tpf), (cAI g ttc 12 ttf)] [2] [0, 1, 3] (t_isFull l g tt 6 (.int 2) (.ref ttc) ttn) dX9_hasRoom_k0.1.1.2.1 mw343 mw344 mw345 mw64 mw346 rfl 8 rfl rfl 0 _ rfl yk_yX8_isFull_0 rfl (Nat.le_of_ble_eq_true rfl) (Nat.le_of_ble_eq_true rfl) (Nat.le_of_ble_eq_true rfl) (Nat.le_of_ble_eq_true rfl) (Nat.le_of_ble_eq_true rfl) rfl rfl (vnd_e rfl) rfl (vnd_e rfl) (dsj_e rfl) ?_
  rintro r_1 w ⟨hr_2, rfl⟩
  refine k_ws [(cO9_i1r1i2r1i1r2i4l1i2 h0 xtpd th xfn xfp tp xen nm nd xkd xsta xpo xva xle xtk xta), (cAB g tp 900 tpf), (cAI g ttc 12 ttf), (cO8_iiri tt 6 2 ttc ttn)] rfl ?_
  refine k_if_eq 17 X dX9_hasRoom_k0.1.1.2.2 (jp_e rfl) (fun h_3 => ?_) (fun h_3 => ?_)
  · skip
    have iv_4 : IV r_1 0 0 := iv_meet (iv_any r_1) (iv_e h_3 iq_0_0_0) (zle_o rfl) (zle_o rfl)
    refine k_aload_n X dX9_hasRoom_k0.2.2.1.1 0 rfl ?_
    refine k_callVV (n := 0) (As := []) (st := []) X [(cO9_i1r1i2r1i1r2i4l1i2 h0 xtpd th xfn xfp tp xen nm nd xkd xsta xpo xva xle xtk xta), (cAB g tp 900 tpf)] [(cAI g ttc 12 ttf), (cO8_iiri tt 6 2 ttc ttn)] [0, 1] [2, 3] (x_nextX l g h0 xtpd th xfn xfp tp xen nm nd xkd xsta xpo xva xle xtk xta tpf (iv_w hv_xen (zle_e rfl) (zle_e rfl)) (iv_w hv_xpo (zle_e rfl) (zle_e rfl))) dX9_hasRoom_k0.2.2.1.2 mw237 mw238 mw239 mw15 mw240 rfl 9 rfl rfl 0 _ rfl yk_yX9_next_0 rfl (Nat.le_of_ble_eq_true rfl) (Nat.le_of_ble_eq_true rfl) (Nat.le_of_ble_eq_true rfl) (Nat.le_of_ble_eq_true rfl) (Nat.le_of_ble_eq_true rfl) rfl rfl (vnd_e rfl) rfl (vnd_e rfl) (dsj_e rfl) ?_
    rintro w ⟨xkd2_5, xsta2_6, xpo2_7, xva2_8, xle2_9, iv_11, iv_12, iv_13, hq_14, rfl⟩
    refine k_ws [(cAI g ttc 12 ttf), (cO8_iiri tt 6 2 ttc ttn), (cO9_i1r1i2r1i1r2i4l1i2 h0 xtpd th xfn xfp tp xen nm nd xkd2_5 xsta2_6 xpo2_7 xva2_8 xle2_9 xtk xta), (cAB g tp 900 tpf)] rfl ?_
    refine k_iconst (v := 1) X dX9_hasRoom_k0.2.2.2.1 ic_1 ?_
    exact k_zret X hr (by first | rfl | decide) dX9_hasRoom_k0.2.2.2.2 (Nat.le_of_ble_eq_true rfl) (Nat.le_of_ble_eq_true rfl) [2, 3, 1, 0] (vnd_e rfl) rfl rfl (exI7 xfn xfp xkd2_5 xsta2_6 xpo2_7 xva2_8 xle2_9 ⟨(iv_w iv_11 (zle_e rfl) (zle_e rfl)), (iv_w iv_12 (zle_e rfl) (zle_e rfl)), (iv_w iq_1_1_1 (zle_e rfl) (zle_e rfl)), ⟨r_1, hr_2, (Or.inl ⟨h_3, (exI5 xkd2_5 xsta2_6 xpo2_7 xva2_8 xle2_9 ⟨hq_14, ⟨rfl, rfl, rfl, rfl, rfl, rfl, rfl, rfl⟩⟩)⟩)⟩, rfl⟩)
  · skip
    refine k_aload_n X dX9_hasRoom_k0.1.2.1 0 rfl ?_
    refine k_iconst (v := 5) X dX9_hasRoom_k0.1.2.2.1 ic_5 ?_
    refine k_aload_n X dX9_hasRoom_k0.1.2.2.2 0 rfl ?_
    refine k_get (ci := 9) X inlX9 rfl 9 (nlt_e rfl) dX9_hasRoom_k0.2.1.1 mw67 0 rfl rfl ?_
    refine k_callVI (n := 2) (As := [.int 5, .int xsta]) (st := []) X [(cO9_i1r1i2r1i1r2i4l1i2 h0 xtpd th xfn xfp tp xen nm nd xkd xsta xpo xva xle xtk xta), (cAB g tp 900 tpf)] [(cAI g ttc 12 ttf), (cO8_iiri tt 6 2 ttc ttn)] [0, 1] [2, 3] (x_refuseAtX l g h0 5 xsta xtpd th xfn xfp tp xen nm nd xkd xsta xpo xva xle xtk xta tpf) dX9_hasRoom_k0.2.1.2.1 mw309 mw310 mw311 mw15 mw312 rfl 9 rfl rfl 0 _ rfl yk_yX9_refuseAt_2 rfl (Nat.le_of_ble_eq_true rfl) (Nat.le_of_ble_eq_true rfl) (Nat.le_of_ble_eq_true rfl) (Nat.le_of_ble_eq_true rfl) (Nat.le_of_ble_eq_true rfl) rfl rfl (vnd_e rfl) rfl (vnd_e rfl) (dsj_e rfl) ?_
    rintro r_17 w ⟨xfn2_15, xfp2_16, iv_18, hq_19, rfl⟩
    refine k_ws [(cAI g ttc 12 ttf), (cO8_iiri tt 6 2 ttc ttn), (cO9_i1r1i2r1i1r2i4l1i2 h0 xtpd th xfn2_15 xfp2_16 tp xen nm nd xkd xsta xpo xva xle xtk xta), (cAB g tp 900 tpf)] rfl ?_
    exact k_zret X hr (zn_b (iv_w iv_18 (zle_e rfl) (zle_e rfl))) dX9_hasRoom_k0.2.1.2.2 (Nat.le_of_ble_eq_true rfl) (Nat.le_of_ble_eq_true rfl) [2, 3, 1, 0] (vnd_e rfl) rfl rfl (exI7 xfn2_15 xfp2_16 xkd xsta xpo xva xle ⟨(iv_w hv_xsta (zle_e rfl) (zle_e rfl)), (iv_w hv_xpo (zle_e rfl) (zle_e rfl)), (iv_w iv_18 (zle_e rfl) (zle_e rfl)), ⟨r_1, hr_2, (Or.inr ⟨h_3, ⟨xfn2_15, xfp2_16, r_17, hq_19, ⟨rfl, rfl, rfl, rfl, rfl, rfl, rfl, rfl⟩⟩⟩)⟩, rfl⟩)


set_option maxHeartbeats 4000000 in
set_option maxRecDepth 100000 in
theorem x_lastFrameX (l : Launch) (g : Gx) (h0 : Nat) (p0 : Int32) (xtpd : Int32) (th : Nat) (xfn : Int32) (xfp : Int32) (tp : Nat) (xen : Int32) (nm : Nat) (nd : Nat) (xkd : Int32) (xsta : Int32) (xpo : Int32) (xva : Int32) (xle : Int64) (xtk : Int32) (xta : Int32) (tpf : Nat → Int32) (qs : Nat) (qhn : Nat) (qht : Nat) (qhj : Nat) (qhm : Nat) (qhb : Nat) (qhs : Nat) (qhc : Nat) (qr : Nat) (qm : Nat) (qw : Nat) (qp : Nat) (qmd : Int32) (qtr : Int32) (qrc : Nat) (qrn : Int32) (qrf : Nat → Int32) (qmc : Nat) (qmn : Int32) (qmf : Nat → Int32) (qwc : Nat) (qwn : Int32) (qwf : Nat → Int32) (qpc : Nat) (qpn : Int32) (qpf : Nat → Int32) (qhnc : Nat) (qhnn : Int32) (qhnf : Nat → Int32) (qhtc : Nat) (qhtn : Int32) (qhtf : Nat → Int32) (qhjc : Nat) (qhjn : Int32) (qhjf : Nat → Int32) (qhmc : Nat) (qhmn : Int32) (qhmf : Nat → Int32) (qhbc : Nat) (qhbn : Int32) (qhbf : Nat → Int32) (qhsc : Nat) (qhsn : Int32) (qhsf : Nat → Int32) (qhcc : Nat) (qhcn : Int32) (qhcf : Nat → Int32) : cI l g yX9_lastFrame cX9_lastFrame 2 (some .int) 1 22 0 0 [.ref h0, .int p0] ((cO9_i1r1i2r1i1r2i4l1i2 h0 xtpd th xfn xfp tp xen nm nd xkd xsta xpo xva xle xtk xta) :: (cAB g tp 900 tpf) :: (cO3_rrrrrrrr th qs qhn qht qhj qhm qhb qhs qhc) :: (cO7_rrrrii qs qr qm qw qp qmd qtr) :: (cO8_iiri qr 8 3 qrc qrn) :: (cAI g qrc 24 qrf) :: (cO8_iiri qm 12 3 qmc qmn) :: (cAI g qmc 36 qmf) :: (cO8_iiri qw 6 3 qwc qwn) :: (cAI g qwc 18 qwf) :: (cO8_iiri qp 8 2 qpc qpn) :: (cAI g qpc 16 qpf) :: (cO8_iiri qhn 1 6 qhnc qhnn) :: (cAI g qhnc 6 qhnf) :: (cO8_iiri qht 4 1 qhtc qhtn) :: (cAI g qhtc 4 qhtf) :: (cO8_iiri qhj 8 2 qhjc qhjn) :: (cAI g qhjc 16 qhjf) :: (cO8_iiri qhm 4 3 qhmc qhmn) :: (cAI g qhmc 12 qhmf) :: (cO8_iiri qhb 1 3 qhbc qhbn) :: (cAI g qhbc 3 qhbf) :: (cO8_iiri qhs 6 3 qhsc qhsn) :: (cAI g qhsc 18 qhsf) :: (cO8_iiri qhc 6 2 qhcc qhcn) :: (cAI g qhcc 12 qhcf) :: []) (fun r w => (R_x_lastFrameX p0 qrf r) ∧ w = ((cO9_i1r1i2r1i1r2i4l1i2 h0 xtpd th xfn xfp tp xen nm nd xkd xsta xpo xva xle xtk xta) :: (cAB g tp 900 tpf) :: (cO3_rrrrrrrr th qs qhn qht qhj qhm qhb qhs qhc) :: (cO7_rrrrii qs qr qm qw qp qmd qtr) :: (cO8_iiri qr 8 3 qrc qrn) :: (cAI g qrc 24 qrf) :: (cO8_iiri qm 12 3 qmc qmn) :: (cAI g qmc 36 qmf) :: (cO8_iiri qw 6 3 qwc qwn) :: (cAI g qwc 18 qwf) :: (cO8_iiri qp 8 2 qpc qpn) :: (cAI g qpc 16 qpf) :: (cO8_iiri qhn 1 6 qhnc qhnn) :: (cAI g qhnc 6 qhnf) :: (cO8_iiri qht 4 1 qhtc qhtn) :: (cAI g qhtc 4 qhtf) :: (cO8_iiri qhj 8 2 qhjc qhjn) :: (cAI g qhjc 16 qhjf) :: (cO8_iiri qhm 4 3 qhmc qhmn) :: (cAI g qhmc 12 qhmf) :: (cO8_iiri qhb 1 3 qhbc qhbn) :: (cAI g qhbc 3 qhbf) :: (cO8_iiri qhs 6 3 qhsc qhsn) :: (cAI g qhsc 18 qhsf) :: (cO8_iiri qhc 6 2 qhcc qhcn) :: (cAI g qhcc 12 qhcf) :: [])) := by
  refine cI.of (by decide) (Nat.le_of_ble_eq_true rfl) ?_
  intro p e s m args below meth c A X hr hi
  refine k_lveq [(0, .ref h0), (1, .int p0)] rfl ?_
  refine k_aload_n X dX9_lastFrame_k0.1.1.1 0 rfl ?_
  refine k_get (ci := 9) X inlX9 rfl 1 (nlt_e rfl) dX9_lastFrame_k0.1.1.2 mw55 0 rfl rfl ?_
  refine k_get (ci := 3) X inlX3 rfl 0 (nlt_e rfl) dX9_lastFrame_k0.1.2.1 mw337 2 rfl rfl ?_
  refine k_get (ci := 7) X inlX7 rfl 0 (nlt_e rfl) dX9_lastFrame_k0.1.2.2.1 mw338 3 rfl rfl ?_
  refine k_iload_n X dX9_lastFrame_k0.1.2.2.2 1 rfl ?_
  refine k_iconst (v := 0) X dX9_lastFrame_k0.2.1.1 ic_0 ?_
  refine k_callVI (n := 2) (As := [.int p0, .int 0]) (st := []) X [(cO8_iiri qr 8 3 qrc qrn), (cAI g qrc 24 qrf)] ((cO9_i1r1i2r1i1r2i4l1i2 h0 xtpd th xfn xfp tp xen nm nd xkd xsta xpo xva xle xtk xta) :: (cAB g tp 900 tpf) :: (cO3_rrrrrrrr th qs qhn qht qhj qhm qhb qhs qhc) :: (cO7_rrrrii qs qr qm qw qp qmd qtr) :: (cO8_iiri qm 12 3 qmc qmn) :: (cAI g qmc 36 qmf) :: (cO8_iiri qw 6 3 qwc qwn) :: (cAI g qwc 18 qwf) :: (cO8_iiri qp 8 2 qpc qpn) :: (cAI g qpc 16 qpf) :: (cO8_iiri qhn 1 6 qhnc qhnn) :: (cAI g qhnc 6 qhnf) :: (cO8_iiri qht 4 1 qhtc qhtn) :: (cAI g qhtc 4 qhtf) :: (cO8_iiri qhj 8 2 qhjc qhjn) :: (cAI g qhjc 16 qhjf) :: (cO8_iiri qhm 4 3 qhmc qhmn) :: (cAI g qhmc 12 qhmf) :: (cO8_iiri qhb 1 3 qhbc qhbn) :: (cAI g qhbc 3 qhbf) :: (cO8_iiri qhs 6 3 qhsc qhsn) :: (cAI g qhsc 18 qhsf) :: (cO8_iiri qhc 6 2 qhcc qhcn) :: (cAI g qhcc 12 qhcf) :: []) [4, 5] [0, 1, 2, 3, 6, 7, 8, 9, 10, 11, 12, 13, 14, 15, 16, 17, 18, 19, 20, 21, 22, 23, 24, 25] (t_at l g qr p0 0 8 3 qrc qrn 24 qrf (tbk_8_3)) dX9_lastFrame_k0.2.1.2 mw375 mw376 mw377 mw64 mw378 rfl 8 rfl rfl 0 _ rfl yk_yX8_at_2 rfl (Nat.le_of_ble_eq_true rfl) (Nat.le_of_ble_eq_true rfl) (Nat.le_of_ble_eq_true rfl) (Nat.le_of_ble_eq_true rfl) (Nat.le_of_ble_eq_true rfl) rfl rfl (vnd_e rfl) rfl (vnd_e rfl) (dsj_e rfl) ?_
  rintro r_1 w ⟨hr_2, rfl⟩
  refine k_ws ((cO9_i1r1i2r1i1r2i4l1i2 h0 xtpd th xfn xfp tp xen nm nd xkd xsta xpo xva xle xtk xta) :: (cAB g tp 900 tpf) :: (cO3_rrrrrrrr th qs qhn qht qhj qhm qhb qhs qhc) :: (cO7_rrrrii qs qr qm qw qp qmd qtr) :: (cO8_iiri qm 12 3 qmc qmn) :: (cAI g qmc 36 qmf) :: (cO8_iiri qw 6 3 qwc qwn) :: (cAI g qwc 18 qwf) :: (cO8_iiri qp 8 2 qpc qpn) :: (cAI g qpc 16 qpf) :: (cO8_iiri qhn 1 6 qhnc qhnn) :: (cAI g qhnc 6 qhnf) :: (cO8_iiri qht 4 1 qhtc qhtn) :: (cAI g qhtc 4 qhtf) :: (cO8_iiri qhj 8 2 qhjc qhjn) :: (cAI g qhjc 16 qhjf) :: (cO8_iiri qhm 4 3 qhmc qhmn) :: (cAI g qhmc 12 qhmf) :: (cO8_iiri qhb 1 3 qhbc qhbn) :: (cAI g qhbc 3 qhbf) :: (cO8_iiri qhs 6 3 qhsc qhsn) :: (cAI g qhsc 18 qhsf) :: (cO8_iiri qhc 6 2 qhcc qhcn) :: (cAI g qhcc 12 qhcf) :: (cO8_iiri qr 8 3 qrc qrn) :: (cAI g qrc 24 qrf) :: []) rfl ?_
  refine k_iconst (v := 1) X dX9_lastFrame_k0.2.2.1 ic_1 ?_
  refine k_isub X dX9_lastFrame_k0.2.2.2.1 ?_
  refine k_nm (fun z_3 ez_3 => ?_)
  exact k_iret X hr dX9_lastFrame_k0.2.2.2.2 (Nat.le_of_ble_eq_true rfl) (Nat.le_of_ble_eq_true rfl) [0, 1, 2, 3, 24, 25, 4, 5, 6, 7, 8, 9, 10, 11, 12, 13, 14, 15, 16, 17, 18, 19, 20, 21, 22, 23] (vnd_e rfl) rfl rfl ⟨⟨r_1, hr_2, ⟨z_3, ez_3, rfl⟩⟩, rfl⟩


set_option maxHeartbeats 4000000 in
set_option maxRecDepth 100000 in
theorem x_isNumberX (l : Launch) (g : Gx) (h0 : Nat) (sa : Nat) (p0 : Int32) (p1 : Int32) (p2 : Int32) (xtpd : Int32) (th : Nat) (xfn : Int32) (xfp : Int32) (tp : Nat) (xen : Int32) (nm : Nat) (nd : Nat) (xkd : Int32) (xsta : Int32) (xpo : Int32) (xva : Int32) (xle : Int64) (xtk : Int32) (xta : Int32) (tpf : Nat → Int32) (qs : Nat) (qhn : Nat) (qht : Nat) (qhj : Nat) (qhm : Nat) (qhb : Nat) (qhs : Nat) (qhc : Nat) (qr : Nat) (qm : Nat) (qw : Nat) (qp : Nat) (qmd : Int32) (qtr : Int32) (qrc : Nat) (qrn : Int32) (qrf : Nat → Int32) (qmc : Nat) (qmn : Int32) (qmf : Nat → Int32) (qwc : Nat) (qwn : Int32) (qwf : Nat → Int32) (qpc : Nat) (qpn : Int32) (qpf : Nat → Int32) (qhnc : Nat) (qhnn : Int32) (qhnf : Nat → Int32) (qhtc : Nat) (qhtn : Int32) (qhtf : Nat → Int32) (qhjc : Nat) (qhjn : Int32) (qhjf : Nat → Int32) (qhmc : Nat) (qhmn : Int32) (qhmf : Nat → Int32) (qhbc : Nat) (qhbn : Int32) (qhbf : Nat → Int32) (qhsc : Nat) (qhsn : Int32) (qhsf : Nat → Int32) (qhcc : Nat) (qhcn : Int32) (qhcf : Nat → Int32) (tx_sa : String) (hv_xen : IV xen 0 900) (hv_xsta : IV xsta 0 900) (hv_xpo : IV xpo 0 900) (hp_sa : LtS g sa tx_sa) : cI l g yX9_isNumber cX9_isNumber 5 (some .boolean) 6 128 0 0 [.ref h0, .ref sa, .int p0, .int p1, .int p2] ((cO9_i1r1i2r1i1r2i4l1i2 h0 xtpd th xfn xfp tp xen nm nd xkd xsta xpo xva xle xtk xta) :: (cAB g tp 900 tpf) :: (cO3_rrrrrrrr th qs qhn qht qhj qhm qhb qhs qhc) :: (cO7_rrrrii qs qr qm qw qp qmd qtr) :: (cO8_iiri qr 8 3 qrc qrn) :: (cAI g qrc 24 qrf) :: (cO8_iiri qm 12 3 qmc qmn) :: (cAI g qmc 36 qmf) :: (cO8_iiri qw 6 3 qwc qwn) :: (cAI g qwc 18 qwf) :: (cO8_iiri qp 8 2 qpc qpn) :: (cAI g qpc 16 qpf) :: (cO8_iiri qhn 1 6 qhnc qhnn) :: (cAI g qhnc 6 qhnf) :: (cO8_iiri qht 4 1 qhtc qhtn) :: (cAI g qhtc 4 qhtf) :: (cO8_iiri qhj 8 2 qhjc qhjn) :: (cAI g qhjc 16 qhjf) :: (cO8_iiri qhm 4 3 qhmc qhmn) :: (cAI g qhmc 12 qhmf) :: (cO8_iiri qhb 1 3 qhbc qhbn) :: (cAI g qhbc 3 qhbf) :: (cO8_iiri qhs 6 3 qhsc qhsn) :: (cAI g qhsc 18 qhsf) :: (cO8_iiri qhc 6 2 qhcc qhcn) :: (cAI g qhcc 12 qhcf) :: []) (fun r w => ∃ (xfn2 : Int32) (xfp2 : Int32) (xkd2 : Int32) (xsta2 : Int32) (xpo2 : Int32) (xva2 : Int32) (xle2 : Int64) (xtk2 : Int32) (xta2 : Int32) (qrg : Nat → Int32) (qmg : Nat → Int32) (qwg : Nat → Int32) (qpg : Nat → Int32) (qrk : Int32) (qmk : Int32) (qwk : Int32) (qpk : Int32) (qmd2 : Int32) (qtr2 : Int32) (qhng : Nat → Int32) (qhtg : Nat → Int32) (qhjg : Nat → Int32) (qhmg : Nat → Int32) (qhbg : Nat → Int32) (qhsg : Nat → Int32) (qhcg : Nat → Int32) (qhnk : Int32) (qhtk : Int32) (qhjk : Int32) (qhmk : Int32) (qhbk : Int32) (qhsk : Int32) (qhck : Int32), IV xsta2 0 900 ∧ IV xpo2 0 900 ∧ IV r 0 1 ∧ (R_x_isNumberX p0 p1 p2 xfn xfp xen xkd xsta xpo xva xle xtk xta tpf qmd qtr qrn qrf qmn qmf qwn qwf qpn qpf qhnn qhnf qhtn qhtf qhjn qhjf qhmn qhmf qhbn qhbf qhsn qhsf qhcn qhcf tx_sa xfn2 xfp2 xkd2 xsta2 xpo2 xva2 xle2 xtk2 xta2 qrg qmg qwg qpg qrk qmk qwk qpk qmd2 qtr2 qhng qhtg qhjg qhmg qhbg qhsg qhcg qhnk qhtk qhjk qhmk qhbk qhsk qhck r) ∧ w = ((cO9_i1r1i2r1i1r2i4l1i2 h0 xtpd th xfn2 xfp2 tp xen nm nd xkd2 xsta2 xpo2 xva2 xle2 xtk2 xta2) :: (cAB g tp 900 tpf) :: (cO3_rrrrrrrr th qs qhn qht qhj qhm qhb qhs qhc) :: (cO7_rrrrii qs qr qm qw qp qmd2 qtr2) :: (cO8_iiri qr 8 3 qrc qrk) :: (cAI g qrc 24 qrg) :: (cO8_iiri qm 12 3 qmc qmk) :: (cAI g qmc 36 qmg) :: (cO8_iiri qw 6 3 qwc qwk) :: (cAI g qwc 18 qwg) :: (cO8_iiri qp 8 2 qpc qpk) :: (cAI g qpc 16 qpg) :: (cO8_iiri qhn 1 6 qhnc qhnk) :: (cAI g qhnc 6 qhng) :: (cO8_iiri qht 4 1 qhtc qhtk) :: (cAI g qhtc 4 qhtg) :: (cO8_iiri qhj 8 2 qhjc qhjk) :: (cAI g qhjc 16 qhjg) :: (cO8_iiri qhm 4 3 qhmc qhmk) :: (cAI g qhmc 12 qhmg) :: (cO8_iiri qhb 1 3 qhbc qhbk) :: (cAI g qhbc 3 qhbg) :: (cO8_iiri qhs 6 3 qhsc qhsk) :: (cAI g qhsc 18 qhsg) :: (cO8_iiri qhc 6 2 qhcc qhck) :: (cAI g qhcc 12 qhcg) :: [])) := by
  refine cI.of (by decide) (Nat.le_of_ble_eq_true rfl) ?_
  intro p e s m args below meth c A X hr hi
  refine k_lveq [(0, .ref h0), (1, .ref sa), (2, .int p0), (3, .int p1), (4, .int p2)] rfl ?_
  refine k_aload_n X dX9_isNumber_k0.1.1.1.1 0 rfl ?_
  refine k_aload_n X dX9_isNumber_k0.1.1.1.2 1 rfl ?_
  refine k_callVI (n := 1) (As := [.ref sa]) (st := []) X [(cO9_i1r1i2r1i1r2i4l1i2 h0 xtpd th xfn xfp tp xen nm nd xkd xsta xpo xva xle xtk xta), (cAB g tp 900 tpf)] ((cO3_rrrrrrrr th qs qhn qht qhj qhm qhb qhs qhc) :: (cO7_rrrrii qs qr qm qw qp qmd qtr) :: (cO8_iiri qr 8 3 qrc qrn) :: (cAI g qrc 24 qrf) :: (cO8_iiri qm 12 3 qmc qmn) :: (cAI g qmc 36 qmf) :: (cO8_iiri qw 6 3 qwc qwn) :: (cAI g qwc 18 qwf) :: (cO8_iiri qp 8 2 qpc qpn) :: (cAI g qpc 16 qpf) :: (cO8_iiri qhn 1 6 qhnc qhnn) :: (cAI g qhnc 6 qhnf) :: (cO8_iiri qht 4 1 qhtc qhtn) :: (cAI g qhtc 4 qhtf) :: (cO8_iiri qhj 8 2 qhjc qhjn) :: (cAI g qhjc 16 qhjf) :: (cO8_iiri qhm 4 3 qhmc qhmn) :: (cAI g qhmc 12 qhmf) :: (cO8_iiri qhb 1 3 qhbc qhbn) :: (cAI g qhbc 3 qhbf) :: (cO8_iiri qhs 6 3 qhsc qhsn) :: (cAI g qhsc 18 qhsf) :: (cO8_iiri qhc 6 2 qhcc qhcn) :: (cAI g qhcc 12 qhcf) :: []) [0, 1] [2, 3, 4, 5, 6, 7, 8, 9, 10, 11, 12, 13, 14, 15, 16, 17, 18, 19, 20, 21, 22, 23, 24, 25] (x_isLabelX l g h0 sa xtpd th xfn xfp tp xen nm nd xkd xsta xpo xva xle xtk xta tpf tx_sa (iv_w hv_xen (zle_e rfl) (zle_e rfl)) (iv_w hv_xsta (zle_e rfl) (zle_e rfl)) (iv_w hv_xpo (zle_e rfl) (zle_e rfl)) hp_sa) dX9_isNumber_k0.1.1.2.1 mw317 mw318 mw319 mw15 mw320 rfl 9 rfl rfl 0 _ rfl yk_yX9_isLabel_1 rfl (Nat.le_of_ble_eq_true rfl) (Nat.le_of_ble_eq_true rfl) (Nat.le_of_ble_eq_true rfl) (Nat.le_of_ble_eq_true rfl) (Nat.le_of_ble_eq_true rfl) rfl rfl (vnd_e rfl) rfl (vnd_e rfl) (dsj_e rfl) ?_
  intro r_8 w zq
  refine exE7 zq ?_
  clear zq
  intro xfn2_1 xfp2_2 xkd2_3 xsta2_4 xpo2_5 xva2_6 xle2_7 iv_9 zq
  refine exA3 zq ?_
  clear zq
  intro iv_10 iv_11 hq_12 zq
  subst zq
  refine k_ws ((cO3_rrrrrrrr th qs qhn qht qhj qhm qhb qhs qhc) :: (cO7_rrrrii qs qr qm qw qp qmd qtr) :: (cO8_iiri qr 8 3 qrc qrn) :: (cAI g qrc 24 qrf) :: (cO8_iiri qm 12 3 qmc qmn) :: (cAI g qmc 36 qmf) :: (cO8_iiri qw 6 3 qwc qwn) :: (cAI g qwc 18 qwf) :: (cO8_iiri qp 8 2 qpc qpn) :: (cAI g qpc 16 qpf) :: (cO8_iiri qhn 1 6 qhnc qhnn) :: (cAI g qhnc 6 qhnf) :: (cO8_iiri qht 4 1 qhtc qhtn) :: (cAI g qhtc 4 qhtf) :: (cO8_iiri qhj 8 2 qhjc qhjn) :: (cAI g qhjc 16 qhjf) :: (cO8_iiri qhm 4 3 qhmc qhmn) :: (cAI g qhmc 12 qhmf) :: (cO8_iiri qhb 1 3 qhbc qhbn) :: (cAI g qhbc 3 qhbf) :: (cO8_iiri qhs 6 3 qhsc qhsn) :: (cAI g qhsc 18 qhsf) :: (cO8_iiri qhc 6 2 qhcc qhcn) :: (cAI g qhcc 12 qhcf) :: (cO9_i1r1i2r1i1r2i4l1i2 h0 xtpd th xfn2_1 xfp2_2 tp xen nm nd xkd2_3 xsta2_4 xpo2_5 xva2_6 xle2_7 xtk xta) :: (cAB g tp 900 tpf) :: []) rfl ?_
  refine k_if_eq 18 X dX9_isNumber_k0.1.1.2.2 (jp_e rfl) (fun h_13 => ?_) (fun h_13 => ?_)
  · skip
    have iv_14 : IV r_8 0 0 := iv_meet iv_11 (iv_e h_13 iq_0_0_0) (zle_o rfl) (zle_o rfl)
    refine k_iconst (v := 0) X dX9_isNumber_k0.2.1.1.2 ic_0 ?_
    exact k_zret X hr (by first | rfl | decide) dX9_isNumber_k0.2.1.2.1 (Nat.le_of_ble_eq_true rfl) (Nat.le_of_ble_eq_true rfl) [24, 25, 0, 1, 2, 3, 4, 5, 6, 7, 8, 9, 10, 11, 12, 13, 14, 15, 16, 17, 18, 19, 20, 21, 22, 23] (vnd_e rfl) rfl rfl (exI12 xfn2_1 xfp2_2 xkd2_3 xsta2_4 xpo2_5 xva2_6 xle2_7 xtk xta qrf qmf qwf (exI12 qpf qrn qmn qwn qpn qmd qtr qhnf qhtf qhjf qhmf qhbf (exI9 qhsf qhcf qhnn qhtn qhjn qhmn qhbn qhsn qhcn ⟨(iv_w iv_9 (zle_e rfl) (zle_e rfl)), (iv_w iv_10 (zle_e rfl) (zle_e rfl)), (iv_w iq_0_0_0 (zle_e rfl) (zle_e rfl)), (exI8 xfn2_1 xfp2_2 xkd2_3 xsta2_4 xpo2_5 xva2_6 xle2_7 r_8 ⟨hq_12, (Or.inl ⟨h_13, ⟨rfl, rfl, rfl, rfl, rfl, rfl, rfl, rfl, rfl, rfl, rfl, rfl, rfl, rfl, rfl, rfl, rfl, rfl, rfl, rfl, rfl, rfl, rfl, rfl, rfl, rfl, rfl, rfl, rfl, rfl, rfl, rfl, rfl, rfl⟩⟩)⟩), rfl⟩)))
  · skip
    have iv_15 : IV r_8 1 1 := iv_neL h_13 iv_11 iq_0_0_0 (zle_e rfl)
    refine k_aload_n X dX9_isNumber_k0.1.2.1.1 0 rfl ?_
    refine k_iload_n X dX9_isNumber_k0.1.2.1.2 3 rfl ?_
    refine k_iload X dX9_isNumber_k0.1.2.2.1 4 rfl ?_
    refine k_callVI (n := 2) (As := [.int p1, .int p2]) (st := []) X [(cO9_i1r1i2r1i1r2i4l1i2 h0 xtpd th xfn2_1 xfp2_2 tp xen nm nd xkd2_3 xsta2_4 xpo2_5 xva2_6 xle2_7 xtk xta), (cAB g tp 900 tpf)] ((cO3_rrrrrrrr th qs qhn qht qhj qhm qhb qhs qhc) :: (cO7_rrrrii qs qr qm qw qp qmd qtr) :: (cO8_iiri qr 8 3 qrc qrn) :: (cAI g qrc 24 qrf) :: (cO8_iiri qm 12 3 qmc qmn) :: (cAI g qmc 36 qmf) :: (cO8_iiri qw 6 3 qwc qwn) :: (cAI g qwc 18 qwf) :: (cO8_iiri qp 8 2 qpc qpn) :: (cAI g qpc 16 qpf) :: (cO8_iiri qhn 1 6 qhnc qhnn) :: (cAI g qhnc 6 qhnf) :: (cO8_iiri qht 4 1 qhtc qhtn) :: (cAI g qhtc 4 qhtf) :: (cO8_iiri qhj 8 2 qhjc qhjn) :: (cAI g qhjc 16 qhjf) :: (cO8_iiri qhm 4 3 qhmc qhmn) :: (cAI g qhmc 12 qhmf) :: (cO8_iiri qhb 1 3 qhbc qhbn) :: (cAI g qhbc 3 qhbf) :: (cO8_iiri qhs 6 3 qhsc qhsn) :: (cAI g qhsc 18 qhsf) :: (cO8_iiri qhc 6 2 qhcc qhcn) :: (cAI g qhcc 12 qhcf) :: []) [24, 25] [0, 1, 2, 3, 4, 5, 6, 7, 8, 9, 10, 11, 12, 13, 14, 15, 16, 17, 18, 19, 20, 21, 22, 23] (x_isWholeX l g h0 p1 p2 xtpd th xfn2_1 xfp2_2 tp xen nm nd xkd2_3 xsta2_4 xpo2_5 xva2_6 xle2_7 xtk xta tpf (iv_w hv_xen (zle_e rfl) (zle_e rfl)) (iv_w iv_9 (zle_e rfl) (zle_e rfl)) (iv_w iv_10 (zle_e rfl) (zle_e rfl))) dX9_isNumber_k0.1.2.2.2 mw321 mw322 mw323 mw15 mw324 rfl 9 rfl rfl 0 _ rfl yk_yX9_isWhole_2 rfl (Nat.le_of_ble_eq_true rfl) (Nat.le_of_ble_eq_true rfl) (Nat.le_of_ble_eq_true rfl) (Nat.le_of_ble_eq_true rfl) (Nat.le_of_ble_eq_true rfl) rfl rfl (vnd_e rfl) rfl (vnd_e rfl) (dsj_e rfl) ?_
    intro r_25 w zq
    refine exE9 zq ?_
    clear zq
    intro xfn2_16 xfp2_17 xkd2_18 xsta2_19 xpo2_20 xva2_21 xle2_22 xtk2_23 xta2_24 iv_26 zq
    refine exA3 zq ?_
    clear zq
    intro iv_27 iv_28 hq_29 zq
    subst zq
    refine k_ws ((cO3_rrrrrrrr th qs qhn qht qhj qhm qhb qhs qhc) :: (cO7_rrrrii qs qr qm qw qp qmd qtr) :: (cO8_iiri qr 8 3 qrc qrn) :: (cAI g qrc 24 qrf) :: (cO8_iiri qm 12 3 qmc qmn) :: (cAI g qmc 36 qmf) :: (cO8_iiri qw 6 3 qwc qwn) :: (cAI g qwc 18 qwf) :: (cO8_iiri qp 8 2 qpc qpn) :: (cAI g qpc 16 qpf) :: (cO8_iiri qhn 1 6 qhnc qhnn) :: (cAI g qhnc 6 qhnf) :: (cO8_iiri qht 4 1 qhtc qhtn) :: (cAI g qhtc 4 qhtf) :: (cO8_iiri qhj 8 2 qhjc qhjn) :: (cAI g qhjc 16 qhjf) :: (cO8_iiri qhm 4 3 qhmc qhmn) :: (cAI g qhmc 12 qhmf) :: (cO8_iiri qhb 1 3 qhbc qhbn) :: (cAI g qhbc 3 qhbf) :: (cO8_iiri qhs 6 3 qhsc qhsn) :: (cAI g qhsc 18 qhsf) :: (cO8_iiri qhc 6 2 qhcc qhcn) :: (cAI g qhcc 12 qhcf) :: (cO9_i1r1i2r1i1r2i4l1i2 h0 xtpd th xfn2_16 xfp2_17 tp xen nm nd xkd2_18 xsta2_19 xpo2_20 xva2_21 xle2_22 xtk2_23 xta2_24) :: (cAB g tp 900 tpf) :: []) rfl ?_
    refine k_if_ne 20 X dX9_isNumber_k0.2.1.1.1 (jp_e rfl) (fun h_30 => ?_) (fun h_30 => ?_)
    · skip
      have iv_31 : IV r_25 1 1 := iv_neL h_30 iv_28 iq_0_0_0 (zle_e rfl)
      refine k_aload_n X dX9_isNumber_k0.2.1.2.2 0 rfl ?_
      refine k_get (ci := 9) X inlX9 rfl 1 (nlt_e rfl) dX9_isNumber_k0.2.2.1.1 mw55 24 rfl rfl ?_
      refine k_get (ci := 3) X inlX3 rfl 1 (nlt_e rfl) dX9_isNumber_k0.2.2.1.2 mw250 0 rfl rfl ?_
      refine k_iconst (v := 0) X dX9_isNumber_k0.2.2.2.1 ic_0 ?_
      refine k_iload_n X dX9_isNumber_k0.2.2.2.2 2 rfl ?_
      refine k_aload_n X dX9_isNumber_k1.1.1 0 rfl ?_
      refine k_get (ci := 9) X inlX9 rfl 13 (nlt_e rfl) dX9_isNumber_k1.1.2 mw71 24 rfl rfl ?_
      refine k_callVV (n := 3) (As := [.int 0, .int p0, .int xtk2_23]) (st := []) X [(cO8_iiri qhn 1 6 qhnc qhnn), (cAI g qhnc 6 qhnf)] ((cO3_rrrrrrrr th qs qhn qht qhj qhm qhb qhs qhc) :: (cO7_rrrrii qs qr qm qw qp qmd qtr) :: (cO8_iiri qr 8 3 qrc qrn) :: (cAI g qrc 24 qrf) :: (cO8_iiri qm 12 3 qmc qmn) :: (cAI g qmc 36 qmf) :: (cO8_iiri qw 6 3 qwc qwn) :: (cAI g qwc 18 qwf) :: (cO8_iiri qp 8 2 qpc qpn) :: (cAI g qpc 16 qpf) :: (cO8_iiri qht 4 1 qhtc qhtn) :: (cAI g qhtc 4 qhtf) :: (cO8_iiri qhj 8 2 qhjc qhjn) :: (cAI g qhjc 16 qhjf) :: (cO8_iiri qhm 4 3 qhmc qhmn) :: (cAI g qhmc 12 qhmf) :: (cO8_iiri qhb 1 3 qhbc qhbn) :: (cAI g qhbc 3 qhbf) :: (cO8_iiri qhs 6 3 qhsc qhsn) :: (cAI g qhsc 18 qhsf) :: (cO8_iiri qhc 6 2 qhcc qhcn) :: (cAI g qhcc 12 qhcf) :: (cO9_i1r1i2r1i1r2i4l1i2 h0 xtpd th xfn2_16 xfp2_17 tp xen nm nd xkd2_18 xsta2_19 xpo2_20 xva2_21 xle2_22 xtk2_23 xta2_24) :: (cAB g tp 900 tpf) :: []) [10, 11] [0, 1, 2, 3, 4, 5, 6, 7, 8, 9, 12, 13, 14, 15, 16, 17, 18, 19, 20, 21, 22, 23, 24, 25] (t_put l g qhn 0 p0 xtk2_23 1 6 qhnc qhnn 6 qhnf (tbk_1_6)) dX9_isNumber_k1.2.1 mw325 mw326 mw327 mw64 mw328 rfl 8 rfl rfl 0 _ rfl yk_yX8_put_3 rfl (Nat.le_of_ble_eq_true rfl) (Nat.le_of_ble_eq_true rfl) (Nat.le_of_ble_eq_true rfl) (Nat.le_of_ble_eq_true rfl) (Nat.le_of_ble_eq_true rfl) rfl rfl (vnd_e rfl) rfl (vnd_e rfl) (dsj_e rfl) ?_
      rintro w ⟨fa_32, hr_34, rfl⟩
      refine k_ws ((cO3_rrrrrrrr th qs qhn qht qhj qhm qhb qhs qhc) :: (cO7_rrrrii qs qr qm qw qp qmd qtr) :: (cO8_iiri qr 8 3 qrc qrn) :: (cAI g qrc 24 qrf) :: (cO8_iiri qm 12 3 qmc qmn) :: (cAI g qmc 36 qmf) :: (cO8_iiri qw 6 3 qwc qwn) :: (cAI g qwc 18 qwf) :: (cO8_iiri qp 8 2 qpc qpn) :: (cAI g qpc 16 qpf) :: (cO8_iiri qht 4 1 qhtc qhtn) :: (cAI g qhtc 4 qhtf) :: (cO8_iiri qhj 8 2 qhjc qhjn) :: (cAI g qhjc 16 qhjf) :: (cO8_iiri qhm 4 3 qhmc qhmn) :: (cAI g qhmc 12 qhmf) :: (cO8_iiri qhb 1 3 qhbc qhbn) :: (cAI g qhbc 3 qhbf) :: (cO8_iiri qhs 6 3 qhsc qhsn) :: (cAI g qhsc 18 qhsf) :: (cO8_iiri qhc 6 2 qhcc qhcn) :: (cAI g qhcc 12 qhcf) :: (cO9_i1r1i2r1i1r2i4l1i2 h0 xtpd th xfn2_16 xfp2_17 tp xen nm nd xkd2_18 xsta2_19 xpo2_20 xva2_21 xle2_22 xtk2_23 xta2_24) :: (cAB g tp 900 tpf) :: (cO8_iiri qhn 1 6 qhnc qhnn) :: (cAI g qhnc 6 fa_32) :: []) rfl ?_
      refine k_iconst (v := 1) X dX9_isNumber_k1.2.2.1 ic_1 ?_
      exact k_zret X hr (by first | rfl | decide) dX9_isNumber_k1.2.2.2 (Nat.le_of_ble_eq_true rfl) (Nat.le_of_ble_eq_true rfl) [22, 23, 0, 1, 2, 3, 4, 5, 6, 7, 8, 9, 24, 25, 10, 11, 12, 13, 14, 15, 16, 17, 18, 19, 20, 21] (vnd_e rfl) rfl rfl (exI12 xfn2_16 xfp2_17 xkd2_18 xsta2_19 xpo2_20 xva2_21 xle2_22 xtk2_23 xta2_24 qrf qmf qwf (exI12 qpf qrn qmn qwn qpn qmd qtr fa_32 qhtf qhjf qhmf qhbf (exI9 qhsf qhcf qhnn qhtn qhjn qhmn qhbn qhsn qhcn ⟨(iv_w iv_26 (zle_e rfl) (zle_e rfl)), (iv_w iv_27 (zle_e rfl) (zle_e rfl)), (iv_w iq_1_1_1 (zle_e rfl) (zle_e rfl)), (exI8 xfn2_1 xfp2_2 xkd2_3 xsta2_4 xpo2_5 xva2_6 xle2_7 r_8 ⟨hq_12, (Or.inr ⟨h_13, (exI10 xfn2_16 xfp2_17 xkd2_18 xsta2_19 xpo2_20 xva2_21 xle2_22 xtk2_23 xta2_24 r_25 ⟨hq_29, (Or.inl ⟨h_30, ⟨fa_32, hr_34, ⟨rfl, rfl, rfl, rfl, rfl, rfl, rfl, rfl, rfl, rfl, rfl, rfl, rfl, rfl, rfl, rfl, rfl, rfl, rfl, rfl, rfl, rfl, rfl, rfl, rfl, rfl, rfl, rfl, rfl, rfl, rfl, rfl, rfl, rfl⟩⟩⟩)⟩)⟩)⟩), rfl⟩)))
    · skip
      have iv_35 : IV r_25 0 0 := iv_meet iv_28 (iv_e h_30 iq_0_0_0) (zle_o rfl) (zle_o rfl)
      refine k_iconst (v := 0) X dX9_isNumber_k0.2.1.1.2 ic_0 ?_
      exact k_zret X hr (by first | rfl | decide) dX9_isNumber_k0.2.1.2.1 (Nat.le_of_ble_eq_true rfl) (Nat.le_of_ble_eq_true rfl) [24, 25, 0, 1, 2, 3, 4, 5, 6, 7, 8, 9, 10, 11, 12, 13, 14, 15, 16, 17, 18, 19, 20, 21, 22, 23] (vnd_e rfl) rfl rfl (exI12 xfn2_16 xfp2_17 xkd2_18 xsta2_19 xpo2_20 xva2_21 xle2_22 xtk2_23 xta2_24 qrf qmf qwf (exI12 qpf qrn qmn qwn qpn qmd qtr qhnf qhtf qhjf qhmf qhbf (exI9 qhsf qhcf qhnn qhtn qhjn qhmn qhbn qhsn qhcn ⟨(iv_w iv_26 (zle_e rfl) (zle_e rfl)), (iv_w iv_27 (zle_e rfl) (zle_e rfl)), (iv_w iq_0_0_0 (zle_e rfl) (zle_e rfl)), (exI8 xfn2_1 xfp2_2 xkd2_3 xsta2_4 xpo2_5 xva2_6 xle2_7 r_8 ⟨hq_12, (Or.inr ⟨h_13, (exI10 xfn2_16 xfp2_17 xkd2_18 xsta2_19 xpo2_20 xva2_21 xle2_22 xtk2_23 xta2_24 r_25 ⟨hq_29, (Or.inr ⟨h_30, ⟨rfl, rfl, rfl, rfl, rfl, rfl, rfl, rfl, rfl, rfl, rfl, rfl, rfl, rfl, rfl, rfl, rfl, rfl, rfl, rfl, rfl, rfl, rfl, rfl, rfl, rfl, rfl, rfl, rfl, rfl, rfl, rfl, rfl, rfl⟩⟩)⟩)⟩)⟩), rfl⟩)))
