
set_option maxHeartbeats 4000000 in
set_option maxRecDepth 100000 in
theorem m_weightOfT (l : Launch) (g : Gx) (h0 : Nat) (p0 : Int32) (p1 : Int32) (m_thrown : Int32) (a_tape : Nat) (m_taped : Int32) (m_size : Int32) (m_at : Int32) (m_end : Int32) (m_token : Int32) (m_whole : Int32) (m_nameSize : Int32) (m_fault : Int32) (m_place : Int32) (m_trouble : Int32) (a_letters : Nat) (m_failed : Int32) (m_hasHouse : Int32) (a_r : Nat) (a_fresh : Nat) (a_st : Nat) (a_undone : Nat) (a_kept : Nat) (m_undos : Int32) (m_images : Int32) (a_from : Nat) (a_begin : Nat) (a_motor : Nat) (a_change : Nat) (a_startFrame : Nat) (a_changeFrame : Nat) (a_lostAt : Nat) (a_blackAt : Nat) (a_slips : Nat) (a_leftArc : Nat) (a_died : Nat) (a_arcs : Nat) (m_bestSum : Int32) (m_nearest : Int32) (m_nearestTown : Int32) (a_there : Nat) (a_backAt : Nat) (a_sorted : Nat) (a_parts : Nat) (m_seed1 : Int32) (m_darkNow : Int32) (d_r : Nat → Int32) (d_st : Nat → Int32) (hv_p0 : IV p0 0 7) (hp_d_r : RInv d_r) (hr_0 : TRI d_r) : cL l g yX11_weightOf cX11_weightOf 7 (some .long) 1 22 0 0 [.ref h0, .int p0, .int p1] [(cO11_i1r1i10r1i2r5i2r12i3r4i2 h0 m_thrown a_tape m_taped m_size m_at m_end m_token m_whole m_nameSize m_fault m_place m_trouble a_letters m_failed m_hasHouse a_r a_fresh a_st a_undone a_kept m_undos m_images a_from a_begin a_motor a_change a_startFrame a_changeFrame a_lostAt a_blackAt a_slips a_leftArc a_died a_arcs m_bestSum m_nearest m_nearestTown a_there a_backAt a_sorted a_parts m_seed1 m_darkNow), (cAI g a_r 311 d_r), (cAI g a_st 44 d_st)] (fun r w => (r ≠ 0) ∧ w = [(cO11_i1r1i10r1i2r5i2r12i3r4i2 h0 m_thrown a_tape m_taped m_size m_at m_end m_token m_whole m_nameSize m_fault m_place m_trouble a_letters m_failed m_hasHouse a_r a_fresh a_st a_undone a_kept m_undos m_images a_from a_begin a_motor a_change a_startFrame a_changeFrame a_lostAt a_blackAt a_slips a_leftArc a_died a_arcs m_bestSum m_nearest m_nearestTown a_there a_backAt a_sorted a_parts m_seed1 m_darkNow), (cAI g a_r 311 d_r), (cAI g a_st 44 d_st)]) := by
  refine cL.of (by decide) (Nat.le_of_ble_eq_true rfl) ?_
  intro p e s m args below meth c A X hr hi
  refine k_lveq [(0, .ref h0), (1, .int p0), (2, .int p1)] rfl ?_
  refine k_lconst (v := 1) X dX11_weightOf_0 (by decide) ?_
  refine k_lstore_n [(3, .long 1), (0, .ref h0), (1, .int p0), (2, .int p1)] X dX11_weightOf_1 (by decide) rfl ?_
  refine k_iconst (v := 0) X dX11_weightOf_2 (by decide) ?_
  refine k_istore [(5, .int 0), (3, .long 1), (0, .ref h0), (1, .int p0), (2, .int p1)] X dX11_weightOf_3 (by decide) rfl ?_
  refine (fun hL : ∀ (nn_5 : Nat) (u_1 : Int64) (u_2 : Int32), (2147483647 - u_2.toInt).toNat = nn_5 → (IV u_2 0 255) → (1 ≤ u_1.toInt ∧ u_1.toInt ≤ 9 ^ u_2.toInt.toNat) → Wk p l e _ s m args below meth c _ A g _ _ _ [(cO11_i1r1i10r1i2r5i2r12i3r4i2 h0 m_thrown a_tape m_taped m_size m_at m_end m_token m_whole m_nameSize m_fault m_place m_trouble a_letters m_failed m_hasHouse a_r a_fresh a_st a_undone a_kept m_undos m_images a_from a_begin a_motor a_change a_startFrame a_changeFrame a_lostAt a_blackAt a_slips a_leftArc a_died a_arcs m_bestSum m_nearest m_nearestTown a_there a_backAt a_sorted a_parts m_seed1 m_darkNow), (cAI g a_r 311 d_r), (cAI g a_st 44 d_st)] [(5, .int u_2), (3, .long u_1), (0, .ref h0), (1, .int p0), (2, .int p1)] 5 [] => hL _ 1 0 rfl (iv_w (show IV 0 0 0 from (by decide)) (by decide) (by decide)) (by decide)) ?_
  refine fun nn_5 => Nat.strongRecOn nn_5 (fun nn_5 ih_7 => ?_)
  intro u_1 u_2 hm_6 hv_3 hx_4
  refine k_iload X dX11_weightOf_5 0 rfl ?_
  refine k_aload_n X dX11_weightOf_7 2 rfl ?_
  refine k_get (ci := 11) X inlX11 rfl 15 (by decide) dX11_weightOf_8 mw170 0 rfl rfl ?_
  refine k_bipush (v := 8) X dX11_weightOf_11 (by decide) ?_
  refine k_iald X dX11_weightOf_13 1 rfl (by unfold vp_in; decide) ?_
  refine k_nm (fun z_8 ez_8 => ?_)
  have i_9 : z_8.toInt = (d_r 8).toInt := by rw [ez_8]; rfl
  have iv_10 : IV z_8 0 12 := rb_8 ez_8 hp_d_r
  refine k_ic_ge 103 X dX11_weightOf_14 (by decide) (fun h_11 => ?_) (fun h_11 => ?_)
  · skip
    have j_12 : z_8.toInt ≤ u_2.toInt := iv_le h_11
    refine k_lload_n X dX11_weightOf_103 1 rfl ?_
    exact k_lret X hr dX11_weightOf_104 (Nat.le_of_ble_eq_true rfl) (Nat.le_of_ble_eq_true rfl) [0, 1, 2] (by decide) rfl rfl ⟨(p9n (by assumption)), rfl⟩
  · skip
    have j_13 : u_2.toInt < z_8.toInt := iv_nle h_11
    have iv_14 : IV u_2 0 11 := iv_ltL (iv_nle h_11) hv_3 iv_10 (by decide)
    have iv_15 : IV z_8 1 12 := iv_ltR (iv_nle h_11) hv_3 iv_10 (by decide)
    refine k_aload_n X dX11_weightOf_17 2 rfl ?_
    refine k_get (ci := 11) X inlX11 rfl 15 (by decide) dX11_weightOf_18 mw170 0 rfl rfl ?_
    refine k_bipush (v := 44) X dX11_weightOf_21 (by decide) ?_
    refine k_iconst (v := 3) X dX11_weightOf_23 (by decide) ?_
    refine k_iload X dX11_weightOf_24 0 rfl ?_
    refine k_imul X dX11_weightOf_26 ?_
    refine k_nm (fun z_16 ez_16 => ?_)
    have i_17 : z_16.toInt = 3 * u_2.toInt := in_mul ez_16 (by decide) (by decide) iv_14 (by decide) (by decide)
    have iv_18 : IV z_16 0 33 := iz4 i_17 iv_14 (by decide) (by decide) (by decide)
    refine k_iadd X dX11_weightOf_27 ?_
    refine k_nm (fun z_19 ez_19 => ?_)
    have i_20 : z_19.toInt = 44 + z_16.toInt := in_add ez_19 (show IV 44 44 44 from (by decide)) iv_18 (by decide) (by decide)
    have iv_21 : IV z_19 44 77 := iz2 i_20 iv_18 (by decide) (by decide)
    refine k_iald X dX11_weightOf_28 1 rfl (iv_in iv_21 (by decide) (by decide)) ?_
    refine k_nm (fun z_22 ez_22 => ?_)
    have i_23 : z_19.toInt = 44 + 3 * u_2.toInt := by omega
    have iv_24 : IV z_22 0 7 := rb_44_3 ez_22 hp_d_r i_23 (iv_w iv_14 (by decide) (by decide))
    refine k_iload_n X dX11_weightOf_29 3 rfl ?_
    refine k_ic_eq 36 X dX11_weightOf_30 (by decide) (fun h_25 => ?_) (fun h_25 => ?_)
    · skip
      refine k_aload_n X dX11_weightOf_36 2 rfl ?_
      refine k_get (ci := 11) X inlX11 rfl 15 (by decide) dX11_weightOf_37 mw170 0 rfl rfl ?_
      refine k_bipush (v := 40) X dX11_weightOf_40 (by decide) ?_
      refine k_aload_n X dX11_weightOf_42 2 rfl ?_
      refine k_get (ci := 11) X inlX11 rfl 15 (by decide) dX11_weightOf_43 mw170 0 rfl rfl ?_
      refine k_bipush (v := 44) X dX11_weightOf_46 (by decide) ?_
      refine k_iconst (v := 3) X dX11_weightOf_48 (by decide) ?_
      refine k_iload X dX11_weightOf_49 0 rfl ?_
      refine k_imul X dX11_weightOf_51 ?_
      refine k_to z_16 ez_16.symm ?_
      refine k_iadd X dX11_weightOf_52 ?_
      refine k_to z_19 ez_19.symm ?_
      refine k_iconst (v := 2) X dX11_weightOf_53 (by decide) ?_
      refine k_iadd X dX11_weightOf_54 ?_
      refine k_nm (fun z_26 ez_26 => ?_)
      have i_27 : z_26.toInt = z_19.toInt + 2 := in_add ez_26 iv_21 (show IV 2 2 2 from (by decide)) (by decide) (by decide)
      have iv_28 : IV z_26 46 79 := iz1 i_27 iv_21 (by decide) (by decide)
      refine k_iald X dX11_weightOf_55 1 rfl (iv_in iv_28 (by decide) (by decide)) ?_
      refine k_nm (fun z_29 ez_29 => ?_)
      have i_30 : z_26.toInt = 46 + 3 * u_2.toInt := by omega
      have iv_31 : IV z_29 0 3 := rb_46_3 ez_29 hp_d_r i_30 (iv_w iv_14 (by decide) (by decide))
      refine k_iadd X dX11_weightOf_56 ?_
      refine k_nm (fun z_32 ez_32 => ?_)
      have i_33 : z_32.toInt = 40 + z_29.toInt := in_add ez_32 (show IV 40 40 40 from (by decide)) iv_31 (by decide) (by decide)
      have iv_34 : IV z_32 40 43 := iz2 i_33 iv_31 (by decide) (by decide)
      refine k_iald X dX11_weightOf_57 1 rfl (iv_in iv_34 (by decide) (by decide)) ?_
      refine k_nm (fun z_35 ez_35 => ?_)
      have i_36 : z_32.toInt = 40 + 1 * z_29.toInt := by omega
      have iv_37 : IV z_35 0 9 := rb_40_1 ez_35 hp_d_r i_36 (iv_w iv_31 (by decide) (by decide))
      have iv_38 : IV z_35 1 9 := ⟨tr_at (m := u_2) hr_0 (by omega) (by omega) (by omega) ez_29 (by omega) (by omega) ez_35, iv_37.2⟩
      refine k_istore [(6, .int z_35), (5, .int u_2), (3, .long u_1), (0, .ref h0), (1, .int p0), (2, .int p1)] X dX11_weightOf_58 (by decide) rfl ?_
      refine k_lload_n X dX11_weightOf_60 2 rfl ?_
      refine k_aload_n X dX11_weightOf_61 3 rfl ?_
      refine k_get (ci := 11) X inlX11 rfl 17 (by decide) dX11_weightOf_62 mw172 0 rfl rfl ?_
      refine k_bipush (v := 16) X dX11_weightOf_65 (by decide) ?_
      refine k_iload X dX11_weightOf_67 1 rfl ?_
      refine k_iadd X dX11_weightOf_69 ?_
      refine k_nm (fun z_39 ez_39 => ?_)
      have i_40 : z_39.toInt = 16 + u_2.toInt := in_add ez_39 (show IV 16 16 16 from (by decide)) iv_14 (by decide) (by decide)
      have iv_41 : IV z_39 16 27 := iz2 i_40 iv_14 (by decide) (by decide)
      refine k_iald X dX11_weightOf_70 2 rfl (iv_in iv_41 (by decide) (by decide)) ?_
      refine k_nm (fun z_42 ez_42 => ?_)
      refine k_iload_n X dX11_weightOf_71 5 rfl ?_
      refine k_iconst (v := 2) X dX11_weightOf_72 (by decide) ?_
      refine k_isub X dX11_weightOf_73 ?_
      refine k_nm (fun z_43 ez_43 => ?_)
      refine k_iload_n X dX11_weightOf_74 5 rfl ?_
      refine k_iconst (v := 2) X dX11_weightOf_75 (by decide) ?_
      refine k_iadd X dX11_weightOf_76 ?_
      refine k_nm (fun z_45 ez_45 => ?_)
      refine k_callSI (n := 3) (As := [.int z_42, .int z_43, .int z_45]) (st := [.long u_1]) X [] [(cO11_i1r1i10r1i2r5i2r12i3r4i2 h0 m_thrown a_tape m_taped m_size m_at m_end m_token m_whole m_nameSize m_fault m_place m_trouble a_letters m_failed m_hasHouse a_r a_fresh a_st a_undone a_kept m_undos m_images a_from a_begin a_motor a_change a_startFrame a_changeFrame a_lostAt a_blackAt a_slips a_leftArc a_died a_arcs m_bestSum m_nearest m_nearestTown a_there a_backAt a_sorted a_parts m_seed1 m_darkNow), (cAI g a_r 311 d_r), (cAI g a_st 44 d_st)] [] [0, 1, 2] (m_in l g z_42 z_43 z_45) dX11_weightOf_77 mw482 mw483 mw5 mw484 yk_yX11_in_3 rfl (Nat.le_of_ble_eq_true rfl) (Nat.le_of_ble_eq_true rfl) (Nat.le_of_ble_eq_true rfl) (Nat.le_of_ble_eq_true rfl) (Nat.le_of_ble_eq_true rfl) rfl rfl (by decide) rfl (by decide) (by decide) ?_
      rintro r_47 w ⟨iv_48, hk_49, hk_50, rfl⟩
      refine k_ws [(cO11_i1r1i10r1i2r5i2r12i3r4i2 h0 m_thrown a_tape m_taped m_size m_at m_end m_token m_whole m_nameSize m_fault m_place m_trouble a_letters m_failed m_hasHouse a_r a_fresh a_st a_undone a_kept m_undos m_images a_from a_begin a_motor a_change a_startFrame a_changeFrame a_lostAt a_blackAt a_slips a_leftArc a_died a_arcs m_bestSum m_nearest m_nearestTown a_there a_backAt a_sorted a_parts m_seed1 m_darkNow), (cAI g a_r 311 d_r), (cAI g a_st 44 d_st)] rfl ?_
      refine k_if_eq 89 X dX11_weightOf_80 (by decide) (fun h_51 => ?_) (fun h_51 => ?_)
      · skip
        have iv_52 : IV r_47 0 0 := iv_meet iv_48 (iv_e h_51 (show IV 0 0 0 from (by decide))) (by decide) (by decide)
        have hc_53 := hk_50 (iv_eq iv_52 (show IV 0 0 0 from (by decide)))
        have j_54 : z_42.toInt < z_43.toInt ∨ z_45.toInt < z_42.toInt := hc_53
        refine k_bipush (v := 10) X dX11_weightOf_89 (by decide) ?_
        refine k_iload X dX11_weightOf_91 0 rfl ?_
        refine k_isub X dX11_weightOf_93 ?_
        refine k_nm (fun z_55 ez_55 => ?_)
        have i_56 : z_55.toInt = 10 - z_35.toInt := in_sub ez_55 (show IV 10 10 10 from (by decide)) iv_38 (by decide) (by decide)
        have iv_57 : IV z_55 1 9 := iz7 i_56 iv_38 (by decide) (by decide)
        refine k_i2l X dX11_weightOf_94 ?_
        refine k_nmL (fun y_58 ey_58 => ?_)
        refine k_lmul X dX11_weightOf_95 ?_
        refine k_nmL (fun y_59 ey_59 => ?_)
        refine k_lstore_n [(3, .long y_59), (6, .int z_35), (5, .int u_2), (0, .ref h0), (1, .int p0), (2, .int p1)] X dX11_weightOf_96 (by decide) rfl ?_
        obtain ⟨z_60, ez_60⟩ : ∃ y : Int32, u_2 + Int32.ofInt 1 = y := ⟨_, rfl⟩
        refine k_iinc z_60 [(5, .int z_60), (3, .long y_59), (6, .int z_35), (0, .ref h0), (1, .int p0), (2, .int p1)] 2 X dX11_weightOf_97 rfl ez_60 (by decide) rfl ?_
        have i_61 : z_60.toInt = u_2.toInt + 1 := in_inc ez_60 (by decide) iv_14 (by decide) (by decide)
        have iv_62 : IV z_60 1 12 := iz1 i_61 iv_14 (by decide) (by decide)
        refine k_goto 5 X dX11_weightOf_100 (by decide) ?_
        refine k_lv [(5, .int z_60), (3, .long y_59), (0, .ref h0), (1, .int p0), (2, .int p1)] [0, 1, 3, 4, 5] rfl ?_
        exact ih_7 _ (by omega) y_59 z_60 rfl (iv_w iv_62 (by decide) (by decide)) (p9 (by assumption) (by assumption) (iv_w (by assumption) (by decide) (by decide)) (by assumption) (iv_w (by assumption) (by decide) (by decide)) (by omega))
      · skip
        have hc_63 := hk_49.resolve_left h_51
        have j_64 : z_43.toInt ≤ z_42.toInt := hc_63.1
        have j_65 : z_42.toInt ≤ z_45.toInt := hc_63.2
        have iv_66 : IV r_47 1 1 := iv_neL h_51 iv_48 (show IV 0 0 0 from (by decide)) (by decide)
        refine k_iload X dX11_weightOf_83 0 rfl ?_
        refine k_i2l X dX11_weightOf_85 ?_
        refine k_nmL (fun y_67 ey_67 => ?_)
        refine k_goto 95 X dX11_weightOf_86 (by decide) ?_
        refine k_lmul X dX11_weightOf_95 ?_
        refine k_nmL (fun y_68 ey_68 => ?_)
        refine k_lstore_n [(3, .long y_68), (6, .int z_35), (5, .int u_2), (0, .ref h0), (1, .int p0), (2, .int p1)] X dX11_weightOf_96 (by decide) rfl ?_
        obtain ⟨z_69, ez_69⟩ : ∃ y : Int32, u_2 + Int32.ofInt 1 = y := ⟨_, rfl⟩
        refine k_iinc z_69 [(5, .int z_69), (3, .long y_68), (6, .int z_35), (0, .ref h0), (1, .int p0), (2, .int p1)] 2 X dX11_weightOf_97 rfl ez_69 (by decide) rfl ?_
        have i_70 : z_69.toInt = u_2.toInt + 1 := in_inc ez_69 (by decide) iv_14 (by decide) (by decide)
        have iv_71 : IV z_69 1 12 := iz1 i_70 iv_14 (by decide) (by decide)
        refine k_goto 5 X dX11_weightOf_100 (by decide) ?_
        refine k_lv [(5, .int z_69), (3, .long y_68), (0, .ref h0), (1, .int p0), (2, .int p1)] [0, 1, 3, 4, 5] rfl ?_
        exact ih_7 _ (by omega) y_68 z_69 rfl (iv_w iv_71 (by decide) (by decide)) (p9 (by assumption) (by assumption) (iv_w (by assumption) (by decide) (by decide)) (by assumption) (iv_w (by assumption) (by decide) (by decide)) (by omega))
    · skip
      refine k_goto 97 X dX11_weightOf_33 (by decide) ?_
      obtain ⟨z_72, ez_72⟩ : ∃ y : Int32, u_2 + Int32.ofInt 1 = y := ⟨_, rfl⟩
      refine k_iinc z_72 [(5, .int z_72), (3, .long u_1), (0, .ref h0), (1, .int p0), (2, .int p1)] 0 X dX11_weightOf_97 rfl ez_72 (by decide) rfl ?_
      have i_73 : z_72.toInt = u_2.toInt + 1 := in_inc ez_72 (by decide) iv_14 (by decide) (by decide)
      have iv_74 : IV z_72 1 12 := iz1 i_73 iv_14 (by decide) (by decide)
      refine k_goto 5 X dX11_weightOf_100 (by decide) ?_
      exact ih_7 _ (by omega) u_1 z_72 rfl (iv_w iv_74 (by decide) (by decide)) (p9s (by assumption) (by omega) (by omega))

theorem dX11_truly_0 : decode cX11_truly 0 = .ok (.aload_n 0, 1) := dk_42 rfl
theorem dX11_truly_1 : decode cX11_truly 1 = .ok (.invokevirtual 200, 3) := dk_182 rfl rfl rfl rfl
theorem dX11_truly_4 : decode cX11_truly 4 = .ok (.aload_n 0, 1) := dk_42 rfl
theorem dX11_truly_5 : decode cX11_truly 5 = .ok (.iload_n 1, 1) := dk_27 rfl
theorem dX11_truly_6 : decode cX11_truly 6 = .ok (.invokevirtual 327, 3) := dk_182 rfl rfl rfl rfl
theorem dX11_truly_9 : decode cX11_truly 9 = .ok (.ifCond .eq 12, 3) := dk_153 rfl rfl rfl (by decide)
theorem dX11_truly_12 : decode cX11_truly 12 = .ok (.aload_n 0, 1) := dk_42 rfl
theorem dX11_truly_13 : decode cX11_truly 13 = .ok (.iload_n 1, 1) := dk_27 rfl
theorem dX11_truly_14 : decode cX11_truly 14 = .ok (.iload_n 2, 1) := dk_28 rfl
theorem dX11_truly_15 : decode cX11_truly 15 = .ok (.invokevirtual 397, 3) := dk_182 rfl rfl rfl rfl
theorem dX11_truly_18 : decode cX11_truly 18 = .ok (.ifCond .ne 10, 3) := dk_154 rfl rfl rfl (by decide)
theorem dX11_truly_21 : decode cX11_truly 21 = .ok (.aload_n 0, 1) := dk_42 rfl
theorem dX11_truly_22 : decode cX11_truly 22 = .ok (.iconst 1, 1) := dk_4 rfl
theorem dX11_truly_23 : decode cX11_truly 23 = .ok (.invokevirtual 203, 3) := dk_182 rfl rfl rfl rfl
theorem dX11_truly_26 : decode cX11_truly 26 = .ok (.i2l, 1) := dk_133 rfl
theorem dX11_truly_27 : decode cX11_truly 27 = .ok (.lreturn, 1) := dk_173 rfl
theorem dX11_truly_28 : decode cX11_truly 28 = .ok (.aload_n 0, 1) := dk_42 rfl
theorem dX11_truly_29 : decode cX11_truly 29 = .ok (.iload_n 1, 1) := dk_27 rfl
theorem dX11_truly_30 : decode cX11_truly 30 = .ok (.iload_n 2, 1) := dk_28 rfl
theorem dX11_truly_31 : decode cX11_truly 31 = .ok (.invokevirtual 400, 3) := dk_182 rfl rfl rfl rfl
theorem dX11_truly_34 : decode cX11_truly 34 = .ok (.aload_n 0, 1) := dk_42 rfl
theorem dX11_truly_35 : decode cX11_truly 35 = .ok (.iload_n 1, 1) := dk_27 rfl
theorem dX11_truly_36 : decode cX11_truly 36 = .ok (.invokevirtual 404, 3) := dk_182 rfl rfl rfl rfl
theorem dX11_truly_39 : decode cX11_truly 39 = .ok (.iload_n 3, 1) := dk_29 rfl
theorem dX11_truly_40 : decode cX11_truly 40 = .ok (.invokestatic 408, 3) := dk_184 rfl rfl rfl rfl
theorem dX11_truly_43 : decode cX11_truly 43 = .ok (.lreturn, 1) := dk_173 rfl
set_option maxHeartbeats 4000000 in
set_option maxRecDepth 100000 in
theorem m_truly (l : Launch) (g : Gx) (h0 : Nat) (p0 : Int32) (p1 : Int32) (p2 : Int32) (m_thrown : Int32) (a_tape : Nat) (m_taped : Int32) (m_size : Int32) (m_at : Int32) (m_end : Int32) (m_token : Int32) (m_whole : Int32) (m_nameSize : Int32) (m_fault : Int32) (m_place : Int32) (m_trouble : Int32) (a_letters : Nat) (m_failed : Int32) (m_hasHouse : Int32) (a_r : Nat) (a_fresh : Nat) (a_st : Nat) (a_undone : Nat) (a_kept : Nat) (m_undos : Int32) (m_images : Int32) (a_from : Nat) (a_begin : Nat) (a_motor : Nat) (a_change : Nat) (a_startFrame : Nat) (a_changeFrame : Nat) (a_lostAt : Nat) (a_blackAt : Nat) (a_slips : Nat) (a_leftArc : Nat) (a_died : Nat) (a_arcs : Nat) (m_bestSum : Int32) (m_nearest : Int32) (m_nearestTown : Int32) (a_there : Nat) (a_backAt : Nat) (a_sorted : Nat) (a_parts : Nat) (m_seed1 : Int32) (m_darkNow : Int32) (d_r : Nat → Int32) (d_st : Nat → Int32) (hv_m_hasHouse : IV m_hasHouse 0 1) (hp_d_r : RInv d_r) (hr_0 : TRI d_r) : cL l g yX11_truly cX11_truly 4 (some .long) 3 72 0 0 [.ref h0, .int p0, .int p1, .int p2] [(cO11_i1r1i10r1i2r5i2r12i3r4i2 h0 m_thrown a_tape m_taped m_size m_at m_end m_token m_whole m_nameSize m_fault m_place m_trouble a_letters m_failed m_hasHouse a_r a_fresh a_st a_undone a_kept m_undos m_images a_from a_begin a_motor a_change a_startFrame a_changeFrame a_lostAt a_blackAt a_slips a_leftArc a_died a_arcs m_bestSum m_nearest m_nearestTown a_there a_backAt a_sorted a_parts m_seed1 m_darkNow), (cAI g a_r 311 d_r), (cAI g a_st 44 d_st)] (fun r w => ∃ (m_thrown2 : Int32) (m_trouble2 : Int32), w = [(cO11_i1r1i10r1i2r5i2r12i3r4i2 h0 m_thrown2 a_tape m_taped m_size m_at m_end m_token m_whole m_nameSize m_fault m_place m_trouble2 a_letters m_failed m_hasHouse a_r a_fresh a_st a_undone a_kept m_undos m_images a_from a_begin a_motor a_change a_startFrame a_changeFrame a_lostAt a_blackAt a_slips a_leftArc a_died a_arcs m_bestSum m_nearest m_nearestTown a_there a_backAt a_sorted a_parts m_seed1 m_darkNow), (cAI g a_r 311 d_r), (cAI g a_st 44 d_st)]) := by
  refine cL.of (by decide) (Nat.le_of_ble_eq_true rfl) ?_
  intro p e s m args below meth c A X hr hi
  refine k_lveq [(0, .ref h0), (1, .int p0), (2, .int p1), (3, .int p2)] rfl ?_
  refine k_aload_n X dX11_truly_0 0 rfl ?_
  refine k_callVV (n := 0) (As := []) (st := []) X [(cO11_i1r1i10r1i2r5i2r12i3r4i2 h0 m_thrown a_tape m_taped m_size m_at m_end m_token m_whole m_nameSize m_fault m_place m_trouble a_letters m_failed m_hasHouse a_r a_fresh a_st a_undone a_kept m_undos m_images a_from a_begin a_motor a_change a_startFrame a_changeFrame a_lostAt a_blackAt a_slips a_leftArc a_died a_arcs m_bestSum m_nearest m_nearestTown a_there a_backAt a_sorted a_parts m_seed1 m_darkNow)] [(cAI g a_r 311 d_r), (cAI g a_st 44 d_st)] [0] [1, 2] (m_good l g h0 m_thrown a_tape m_taped m_size m_at m_end m_token m_whole m_nameSize m_fault m_place m_trouble a_letters m_failed m_hasHouse a_r a_fresh a_st a_undone a_kept m_undos m_images a_from a_begin a_motor a_change a_startFrame a_changeFrame a_lostAt a_blackAt a_slips a_leftArc a_died a_arcs m_bestSum m_nearest m_nearestTown a_there a_backAt a_sorted a_parts m_seed1 m_darkNow) dX11_truly_1 mw477 mw478 mw479 mw5 mw480 rfl 11 rfl rfl 0 _ rfl yk_yX11_good_0 rfl (Nat.le_of_ble_eq_true rfl) (Nat.le_of_ble_eq_true rfl) (Nat.le_of_ble_eq_true rfl) (Nat.le_of_ble_eq_true rfl) (Nat.le_of_ble_eq_true rfl) rfl rfl (by decide) rfl (by decide) (by decide) ?_
  rintro w ⟨m_thrown2_1, m_trouble2_2, rfl⟩
  refine k_ws [(cAI g a_r 311 d_r), (cAI g a_st 44 d_st), (cO11_i1r1i10r1i2r5i2r12i3r4i2 h0 m_thrown2_1 a_tape m_taped m_size m_at m_end m_token m_whole m_nameSize m_fault m_place m_trouble2_2 a_letters m_failed m_hasHouse a_r a_fresh a_st a_undone a_kept m_undos m_images a_from a_begin a_motor a_change a_startFrame a_changeFrame a_lostAt a_blackAt a_slips a_leftArc a_died a_arcs m_bestSum m_nearest m_nearestTown a_there a_backAt a_sorted a_parts m_seed1 m_darkNow)] rfl ?_
  refine k_aload_n X dX11_truly_4 0 rfl ?_
  refine k_iload_n X dX11_truly_5 1 rfl ?_
  refine k_callVI (n := 1) (As := [.int p0]) (st := []) X [(cO11_i1r1i10r1i2r5i2r12i3r4i2 h0 m_thrown2_1 a_tape m_taped m_size m_at m_end m_token m_whole m_nameSize m_fault m_place m_trouble2_2 a_letters m_failed m_hasHouse a_r a_fresh a_st a_undone a_kept m_undos m_images a_from a_begin a_motor a_change a_startFrame a_changeFrame a_lostAt a_blackAt a_slips a_leftArc a_died a_arcs m_bestSum m_nearest m_nearestTown a_there a_backAt a_sorted a_parts m_seed1 m_darkNow), (cAI g a_r 311 d_r)] [(cAI g a_st 44 d_st)] [2, 0] [1] (m_isReel l g h0 p0 m_thrown2_1 a_tape m_taped m_size m_at m_end m_token m_whole m_nameSize m_fault m_place m_trouble2_2 a_letters m_failed m_hasHouse a_r a_fresh a_st a_undone a_kept m_undos m_images a_from a_begin a_motor a_change a_startFrame a_changeFrame a_lostAt a_blackAt a_slips a_leftArc a_died a_arcs m_bestSum m_nearest m_nearestTown a_there a_backAt a_sorted a_parts m_seed1 m_darkNow d_r (iv_w hv_m_hasHouse (by decide) (by decide)) hp_d_r) dX11_truly_6 mw670 mw671 mw672 mw5 mw673 rfl 11 rfl rfl 0 _ rfl yk_yX11_isReel_1 rfl (Nat.le_of_ble_eq_true rfl) (Nat.le_of_ble_eq_true rfl) (Nat.le_of_ble_eq_true rfl) (Nat.le_of_ble_eq_true rfl) (Nat.le_of_ble_eq_true rfl) rfl rfl (by decide) rfl (by decide) (by decide) ?_
  rintro r_4 w ⟨iv_5, hk_6, rfl⟩
  refine k_ws [(cAI g a_st 44 d_st), (cO11_i1r1i10r1i2r5i2r12i3r4i2 h0 m_thrown2_1 a_tape m_taped m_size m_at m_end m_token m_whole m_nameSize m_fault m_place m_trouble2_2 a_letters m_failed m_hasHouse a_r a_fresh a_st a_undone a_kept m_undos m_images a_from a_begin a_motor a_change a_startFrame a_changeFrame a_lostAt a_blackAt a_slips a_leftArc a_died a_arcs m_bestSum m_nearest m_nearestTown a_there a_backAt a_sorted a_parts m_seed1 m_darkNow), (cAI g a_r 311 d_r)] rfl ?_
  refine k_if_eq 21 X dX11_truly_9 (by decide) (fun h_7 => ?_) (fun h_7 => ?_)
  · skip
    have iv_8 : IV r_4 0 0 := iv_meet iv_5 (iv_e h_7 (show IV 0 0 0 from (by decide))) (by decide) (by decide)
    refine k_aload_n X dX11_truly_21 0 rfl ?_
    refine k_iconst (v := 1) X dX11_truly_22 (by decide) ?_
    refine k_callVI (n := 1) (As := [.int 1]) (st := []) X [(cO11_i1r1i10r1i2r5i2r12i3r4i2 h0 m_thrown2_1 a_tape m_taped m_size m_at m_end m_token m_whole m_nameSize m_fault m_place m_trouble2_2 a_letters m_failed m_hasHouse a_r a_fresh a_st a_undone a_kept m_undos m_images a_from a_begin a_motor a_change a_startFrame a_changeFrame a_lostAt a_blackAt a_slips a_leftArc a_died a_arcs m_bestSum m_nearest m_nearestTown a_there a_backAt a_sorted a_parts m_seed1 m_darkNow)] [(cAI g a_st 44 d_st), (cAI g a_r 311 d_r)] [1] [0, 2] (m_no l g h0 1 m_thrown2_1 a_tape m_taped m_size m_at m_end m_token m_whole m_nameSize m_fault m_place m_trouble2_2 a_letters m_failed m_hasHouse a_r a_fresh a_st a_undone a_kept m_undos m_images a_from a_begin a_motor a_change a_startFrame a_changeFrame a_lostAt a_blackAt a_slips a_leftArc a_died a_arcs m_bestSum m_nearest m_nearestTown a_there a_backAt a_sorted a_parts m_seed1 m_darkNow) dX11_truly_23 mw485 mw486 mw487 mw5 mw488 rfl 11 rfl rfl 0 _ rfl yk_yX11_no_1 rfl (Nat.le_of_ble_eq_true rfl) (Nat.le_of_ble_eq_true rfl) (Nat.le_of_ble_eq_true rfl) (Nat.le_of_ble_eq_true rfl) (Nat.le_of_ble_eq_true rfl) rfl rfl (by decide) rfl (by decide) (by decide) ?_
    rintro r_10 w ⟨m_trouble2_9, iv_11, rfl⟩
    refine k_ws [(cAI g a_st 44 d_st), (cAI g a_r 311 d_r), (cO11_i1r1i10r1i2r5i2r12i3r4i2 h0 m_thrown2_1 a_tape m_taped m_size m_at m_end m_token m_whole m_nameSize m_fault m_place m_trouble2_9 a_letters m_failed m_hasHouse a_r a_fresh a_st a_undone a_kept m_undos m_images a_from a_begin a_motor a_change a_startFrame a_changeFrame a_lostAt a_blackAt a_slips a_leftArc a_died a_arcs m_bestSum m_nearest m_nearestTown a_there a_backAt a_sorted a_parts m_seed1 m_darkNow)] rfl ?_
    refine k_i2l X dX11_truly_26 ?_
    refine k_nmL (fun y_12 ey_12 => ?_)
    exact k_lret X hr dX11_truly_27 (Nat.le_of_ble_eq_true rfl) (Nat.le_of_ble_eq_true rfl) [2, 1, 0] (by decide) rfl rfl ⟨m_thrown2_1, m_trouble2_9, rfl⟩
  · skip
    have hc_13 := hk_6.resolve_left h_7
    have iv_14 : IV p0 0 7 := iv_meet (iv_any p0) hc_13 (by decide) (by decide)
    have iv_15 : IV r_4 1 1 := iv_neL h_7 iv_5 (show IV 0 0 0 from (by decide)) (by decide)
    refine k_aload_n X dX11_truly_12 0 rfl ?_
    refine k_iload_n X dX11_truly_13 1 rfl ?_
    refine k_iload_n X dX11_truly_14 2 rfl ?_
    refine k_callVI (n := 2) (As := [.int p0, .int p1]) (st := []) X [(cO11_i1r1i10r1i2r5i2r12i3r4i2 h0 m_thrown2_1 a_tape m_taped m_size m_at m_end m_token m_whole m_nameSize m_fault m_place m_trouble2_2 a_letters m_failed m_hasHouse a_r a_fresh a_st a_undone a_kept m_undos m_images a_from a_begin a_motor a_change a_startFrame a_changeFrame a_lostAt a_blackAt a_slips a_leftArc a_died a_arcs m_bestSum m_nearest m_nearestTown a_there a_backAt a_sorted a_parts m_seed1 m_darkNow), (cAI g a_r 311 d_r), (cAI g a_st 44 d_st)] [] [1, 2, 0] [] (m_isDot l g h0 p0 p1 m_thrown2_1 a_tape m_taped m_size m_at m_end m_token m_whole m_nameSize m_fault m_place m_trouble2_2 a_letters m_failed m_hasHouse a_r a_fresh a_st a_undone a_kept m_undos m_images a_from a_begin a_motor a_change a_startFrame a_changeFrame a_lostAt a_blackAt a_slips a_leftArc a_died a_arcs m_bestSum m_nearest m_nearestTown a_there a_backAt a_sorted a_parts m_seed1 m_darkNow d_r d_st (iv_w iv_14 (by decide) (by decide)) hp_d_r) dX11_truly_15 mw1155 mw1156 mw1157 mw5 mw1158 rfl 11 rfl rfl 0 _ rfl yk_yX11_isDot_2 rfl (Nat.le_of_ble_eq_true rfl) (Nat.le_of_ble_eq_true rfl) (Nat.le_of_ble_eq_true rfl) (Nat.le_of_ble_eq_true rfl) (Nat.le_of_ble_eq_true rfl) rfl rfl (by decide) rfl (by decide) (by decide) ?_
    rintro r_16 w ⟨iv_17, rfl⟩
    refine k_ws [(cO11_i1r1i10r1i2r5i2r12i3r4i2 h0 m_thrown2_1 a_tape m_taped m_size m_at m_end m_token m_whole m_nameSize m_fault m_place m_trouble2_2 a_letters m_failed m_hasHouse a_r a_fresh a_st a_undone a_kept m_undos m_images a_from a_begin a_motor a_change a_startFrame a_changeFrame a_lostAt a_blackAt a_slips a_leftArc a_died a_arcs m_bestSum m_nearest m_nearestTown a_there a_backAt a_sorted a_parts m_seed1 m_darkNow), (cAI g a_r 311 d_r), (cAI g a_st 44 d_st)] rfl ?_
    refine k_if_ne 28 X dX11_truly_18 (by decide) (fun h_18 => ?_) (fun h_18 => ?_)
    · skip
      have iv_19 : IV r_16 1 1 := iv_neL h_18 iv_17 (show IV 0 0 0 from (by decide)) (by decide)
      refine k_aload_n X dX11_truly_28 0 rfl ?_
      refine k_iload_n X dX11_truly_29 1 rfl ?_
      refine k_iload_n X dX11_truly_30 2 rfl ?_
      refine k_callVL (n := 2) (As := [.int p0, .int p1]) (st := []) X [(cO11_i1r1i10r1i2r5i2r12i3r4i2 h0 m_thrown2_1 a_tape m_taped m_size m_at m_end m_token m_whole m_nameSize m_fault m_place m_trouble2_2 a_letters m_failed m_hasHouse a_r a_fresh a_st a_undone a_kept m_undos m_images a_from a_begin a_motor a_change a_startFrame a_changeFrame a_lostAt a_blackAt a_slips a_leftArc a_died a_arcs m_bestSum m_nearest m_nearestTown a_there a_backAt a_sorted a_parts m_seed1 m_darkNow), (cAI g a_r 311 d_r), (cAI g a_st 44 d_st)] [] [0, 1, 2] [] (m_weightOfT l g h0 p0 p1 m_thrown2_1 a_tape m_taped m_size m_at m_end m_token m_whole m_nameSize m_fault m_place m_trouble2_2 a_letters m_failed m_hasHouse a_r a_fresh a_st a_undone a_kept m_undos m_images a_from a_begin a_motor a_change a_startFrame a_changeFrame a_lostAt a_blackAt a_slips a_leftArc a_died a_arcs m_bestSum m_nearest m_nearestTown a_there a_backAt a_sorted a_parts m_seed1 m_darkNow d_r d_st (iv_w iv_14 (by decide) (by decide)) hp_d_r hr_0) dX11_truly_31 mw1159 mw1160 mw1161 mw5 mw1162 rfl 11 rfl rfl 0 _ rfl yk_yX11_weightOf_2 rfl (Nat.le_of_ble_eq_true rfl) (Nat.le_of_ble_eq_true rfl) (Nat.le_of_ble_eq_true rfl) (Nat.le_of_ble_eq_true rfl) (Nat.le_of_ble_eq_true rfl) rfl rfl (by decide) rfl (by decide) (by decide) ?_
      rintro r_20 w ⟨hq_21, rfl⟩
      refine k_ws [(cO11_i1r1i10r1i2r5i2r12i3r4i2 h0 m_thrown2_1 a_tape m_taped m_size m_at m_end m_token m_whole m_nameSize m_fault m_place m_trouble2_2 a_letters m_failed m_hasHouse a_r a_fresh a_st a_undone a_kept m_undos m_images a_from a_begin a_motor a_change a_startFrame a_changeFrame a_lostAt a_blackAt a_slips a_leftArc a_died a_arcs m_bestSum m_nearest m_nearestTown a_there a_backAt a_sorted a_parts m_seed1 m_darkNow), (cAI g a_r 311 d_r), (cAI g a_st 44 d_st)] rfl ?_
      refine k_aload_n X dX11_truly_34 0 rfl ?_
      refine k_iload_n X dX11_truly_35 1 rfl ?_
      refine k_callVL (n := 1) (As := [.int p0]) (st := [.long r_20]) X [(cO11_i1r1i10r1i2r5i2r12i3r4i2 h0 m_thrown2_1 a_tape m_taped m_size m_at m_end m_token m_whole m_nameSize m_fault m_place m_trouble2_2 a_letters m_failed m_hasHouse a_r a_fresh a_st a_undone a_kept m_undos m_images a_from a_begin a_motor a_change a_startFrame a_changeFrame a_lostAt a_blackAt a_slips a_leftArc a_died a_arcs m_bestSum m_nearest m_nearestTown a_there a_backAt a_sorted a_parts m_seed1 m_darkNow), (cAI g a_r 311 d_r), (cAI g a_st 44 d_st)] [] [0, 1, 2] [] (m_allWeights l g h0 p0 m_thrown2_1 a_tape m_taped m_size m_at m_end m_token m_whole m_nameSize m_fault m_place m_trouble2_2 a_letters m_failed m_hasHouse a_r a_fresh a_st a_undone a_kept m_undos m_images a_from a_begin a_motor a_change a_startFrame a_changeFrame a_lostAt a_blackAt a_slips a_leftArc a_died a_arcs m_bestSum m_nearest m_nearestTown a_there a_backAt a_sorted a_parts m_seed1 m_darkNow d_r d_st (iv_w iv_14 (by decide) (by decide)) hp_d_r) dX11_truly_36 mw1163 mw1164 mw1165 mw5 mw1166 rfl 11 rfl rfl 0 _ rfl yk_yX11_allWeights_1 rfl (Nat.le_of_ble_eq_true rfl) (Nat.le_of_ble_eq_true rfl) (Nat.le_of_ble_eq_true rfl) (Nat.le_of_ble_eq_true rfl) (Nat.le_of_ble_eq_true rfl) rfl rfl (by decide) rfl (by decide) (by decide) ?_
      rintro r_22 w rfl
      refine k_ws [(cO11_i1r1i10r1i2r5i2r12i3r4i2 h0 m_thrown2_1 a_tape m_taped m_size m_at m_end m_token m_whole m_nameSize m_fault m_place m_trouble2_2 a_letters m_failed m_hasHouse a_r a_fresh a_st a_undone a_kept m_undos m_images a_from a_begin a_motor a_change a_startFrame a_changeFrame a_lostAt a_blackAt a_slips a_leftArc a_died a_arcs m_bestSum m_nearest m_nearestTown a_there a_backAt a_sorted a_parts m_seed1 m_darkNow), (cAI g a_r 311 d_r), (cAI g a_st 44 d_st)] rfl ?_
      refine k_iload_n X dX11_truly_39 3 rfl ?_
      refine k_callSL (n := 3) (As := [.long r_20, .long r_22, .int p2]) (st := []) X [] [(cO11_i1r1i10r1i2r5i2r12i3r4i2 h0 m_thrown2_1 a_tape m_taped m_size m_at m_end m_token m_whole m_nameSize m_fault m_place m_trouble2_2 a_letters m_failed m_hasHouse a_r a_fresh a_st a_undone a_kept m_undos m_images a_from a_begin a_motor a_change a_startFrame a_changeFrame a_lostAt a_blackAt a_slips a_leftArc a_died a_arcs m_bestSum m_nearest m_nearestTown a_there a_backAt a_sorted a_parts m_seed1 m_darkNow), (cAI g a_r 311 d_r), (cAI g a_st 44 d_st)] [] [0, 1, 2] (m_lowest l g r_20 r_22 p2 (by first | exact Or.inr (by decide) | exact Or.inr (by assumption) | exact Or.inl (by assumption))) dX11_truly_40 mw1167 mw1168 mw5 mw1169 yk_yX11_lowest_3 rfl (Nat.le_of_ble_eq_true rfl) (Nat.le_of_ble_eq_true rfl) (Nat.le_of_ble_eq_true rfl) (Nat.le_of_ble_eq_true rfl) (Nat.le_of_ble_eq_true rfl) rfl rfl (by decide) rfl (by decide) (by decide) ?_
      rintro r_23 w rfl
      refine k_ws [(cO11_i1r1i10r1i2r5i2r12i3r4i2 h0 m_thrown2_1 a_tape m_taped m_size m_at m_end m_token m_whole m_nameSize m_fault m_place m_trouble2_2 a_letters m_failed m_hasHouse a_r a_fresh a_st a_undone a_kept m_undos m_images a_from a_begin a_motor a_change a_startFrame a_changeFrame a_lostAt a_blackAt a_slips a_leftArc a_died a_arcs m_bestSum m_nearest m_nearestTown a_there a_backAt a_sorted a_parts m_seed1 m_darkNow), (cAI g a_r 311 d_r), (cAI g a_st 44 d_st)] rfl ?_
      exact k_lret X hr dX11_truly_43 (Nat.le_of_ble_eq_true rfl) (Nat.le_of_ble_eq_true rfl) [0, 1, 2] (by decide) rfl rfl ⟨m_thrown2_1, m_trouble2_2, rfl⟩
    · skip
      have iv_24 : IV r_16 0 0 := iv_meet iv_17 (iv_e h_18 (show IV 0 0 0 from (by decide))) (by decide) (by decide)
      refine k_aload_n X dX11_truly_21 0 rfl ?_
      refine k_iconst (v := 1) X dX11_truly_22 (by decide) ?_
      refine k_callVI (n := 1) (As := [.int 1]) (st := []) X [(cO11_i1r1i10r1i2r5i2r12i3r4i2 h0 m_thrown2_1 a_tape m_taped m_size m_at m_end m_token m_whole m_nameSize m_fault m_place m_trouble2_2 a_letters m_failed m_hasHouse a_r a_fresh a_st a_undone a_kept m_undos m_images a_from a_begin a_motor a_change a_startFrame a_changeFrame a_lostAt a_blackAt a_slips a_leftArc a_died a_arcs m_bestSum m_nearest m_nearestTown a_there a_backAt a_sorted a_parts m_seed1 m_darkNow)] [(cAI g a_r 311 d_r), (cAI g a_st 44 d_st)] [0] [1, 2] (m_no l g h0 1 m_thrown2_1 a_tape m_taped m_size m_at m_end m_token m_whole m_nameSize m_fault m_place m_trouble2_2 a_letters m_failed m_hasHouse a_r a_fresh a_st a_undone a_kept m_undos m_images a_from a_begin a_motor a_change a_startFrame a_changeFrame a_lostAt a_blackAt a_slips a_leftArc a_died a_arcs m_bestSum m_nearest m_nearestTown a_there a_backAt a_sorted a_parts m_seed1 m_darkNow) dX11_truly_23 mw485 mw486 mw487 mw5 mw488 rfl 11 rfl rfl 0 _ rfl yk_yX11_no_1 rfl (Nat.le_of_ble_eq_true rfl) (Nat.le_of_ble_eq_true rfl) (Nat.le_of_ble_eq_true rfl) (Nat.le_of_ble_eq_true rfl) (Nat.le_of_ble_eq_true rfl) rfl rfl (by decide) rfl (by decide) (by decide) ?_
      rintro r_26 w ⟨m_trouble2_25, iv_27, rfl⟩
      refine k_ws [(cAI g a_r 311 d_r), (cAI g a_st 44 d_st), (cO11_i1r1i10r1i2r5i2r12i3r4i2 h0 m_thrown2_1 a_tape m_taped m_size m_at m_end m_token m_whole m_nameSize m_fault m_place m_trouble2_25 a_letters m_failed m_hasHouse a_r a_fresh a_st a_undone a_kept m_undos m_images a_from a_begin a_motor a_change a_startFrame a_changeFrame a_lostAt a_blackAt a_slips a_leftArc a_died a_arcs m_bestSum m_nearest m_nearestTown a_there a_backAt a_sorted a_parts m_seed1 m_darkNow)] rfl ?_
      refine k_i2l X dX11_truly_26 ?_
      refine k_nmL (fun y_28 ey_28 => ?_)
      exact k_lret X hr dX11_truly_27 (Nat.le_of_ble_eq_true rfl) (Nat.le_of_ble_eq_true rfl) [2, 0, 1] (by decide) rfl rfl ⟨m_thrown2_1, m_trouble2_25, rfl⟩
