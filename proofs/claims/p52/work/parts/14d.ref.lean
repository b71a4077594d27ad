theorem dX11_isDot_0 : decode cX11_isDot 0 = .ok (.aload_n 0, 1) := dk_42 rfl
theorem dX11_isDot_1 : decode cX11_isDot 1 = .ok (.getfield 26, 3) := dk_180 rfl rfl rfl rfl
theorem dX11_isDot_4 : decode cX11_isDot 4 = .ok (.bipush 8, 2) := dk_16 rfl rfl (by decide)
theorem dX11_isDot_6 : decode cX11_isDot 6 = .ok (.iload_n 1, 1) := dk_27 rfl
theorem dX11_isDot_7 : decode cX11_isDot 7 = .ok (.iadd, 1) := dk_96 rfl
theorem dX11_isDot_8 : decode cX11_isDot 8 = .ok (.iaload, 1) := dk_46 rfl
theorem dX11_isDot_9 : decode cX11_isDot 9 = .ok (.iload_n 2, 1) := dk_28 rfl
theorem dX11_isDot_10 : decode cX11_isDot 10 = .ok (.if_icmp .ne 7, 3) := dk_160 rfl rfl rfl (by decide)
theorem dX11_isDot_13 : decode cX11_isDot 13 = .ok (.iconst 1, 1) := dk_4 rfl
theorem dX11_isDot_14 : decode cX11_isDot 14 = .ok (.goto 4, 3) := dk_167 rfl rfl rfl (by decide)
theorem dX11_isDot_17 : decode cX11_isDot 17 = .ok (.iconst 0, 1) := dk_3 rfl
theorem dX11_isDot_18 : decode cX11_isDot 18 = .ok (.istore_n 3, 1) := dk_62 rfl
theorem dX11_isDot_19 : decode cX11_isDot 19 = .ok (.iconst 0, 1) := dk_3 rfl
theorem dX11_isDot_20 : decode cX11_isDot 20 = .ok (.istore 4, 2) := dk_54 rfl rfl rfl
theorem dX11_isDot_22 : decode cX11_isDot 22 = .ok (.iload 4, 2) := dk_21 rfl rfl rfl
theorem dX11_isDot_24 : decode cX11_isDot 24 = .ok (.aload_n 0, 1) := dk_42 rfl
theorem dX11_isDot_25 : decode cX11_isDot 25 = .ok (.getfield 20, 3) := dk_180 rfl rfl rfl rfl
theorem dX11_isDot_28 : decode cX11_isDot 28 = .ok (.bipush 8, 2) := dk_16 rfl rfl (by decide)
theorem dX11_isDot_30 : decode cX11_isDot 30 = .ok (.iaload, 1) := dk_46 rfl
theorem dX11_isDot_31 : decode cX11_isDot 31 = .ok (.if_icmp .ge 49, 3) := dk_162 rfl rfl rfl (by decide)
theorem dX11_isDot_34 : decode cX11_isDot 34 = .ok (.iload_n 3, 1) := dk_29 rfl
theorem dX11_isDot_35 : decode cX11_isDot 35 = .ok (.ifCond .ne 33, 3) := dk_154 rfl rfl rfl (by decide)
theorem dX11_isDot_38 : decode cX11_isDot 38 = .ok (.aload_n 0, 1) := dk_42 rfl
theorem dX11_isDot_39 : decode cX11_isDot 39 = .ok (.getfield 20, 3) := dk_180 rfl rfl rfl rfl
theorem dX11_isDot_42 : decode cX11_isDot 42 = .ok (.bipush 44, 2) := dk_16 rfl rfl (by decide)
theorem dX11_isDot_44 : decode cX11_isDot 44 = .ok (.iconst 3, 1) := dk_6 rfl
theorem dX11_isDot_45 : decode cX11_isDot 45 = .ok (.iload 4, 2) := dk_21 rfl rfl rfl
theorem dX11_isDot_47 : decode cX11_isDot 47 = .ok (.imul, 1) := dk_104 rfl
theorem dX11_isDot_48 : decode cX11_isDot 48 = .ok (.iadd, 1) := dk_96 rfl
theorem dX11_isDot_49 : decode cX11_isDot 49 = .ok (.iaload, 1) := dk_46 rfl
theorem dX11_isDot_50 : decode cX11_isDot 50 = .ok (.iload_n 1, 1) := dk_27 rfl
theorem dX11_isDot_51 : decode cX11_isDot 51 = .ok (.if_icmp .ne 21, 3) := dk_160 rfl rfl rfl (by decide)
theorem dX11_isDot_54 : decode cX11_isDot 54 = .ok (.aload_n 0, 1) := dk_42 rfl
theorem dX11_isDot_55 : decode cX11_isDot 55 = .ok (.getfield 26, 3) := dk_180 rfl rfl rfl rfl
theorem dX11_isDot_58 : decode cX11_isDot 58 = .ok (.bipush 16, 2) := dk_16 rfl rfl (by decide)
theorem dX11_isDot_60 : decode cX11_isDot 60 = .ok (.iload 4, 2) := dk_21 rfl rfl rfl
theorem dX11_isDot_62 : decode cX11_isDot 62 = .ok (.iadd, 1) := dk_96 rfl
theorem dX11_isDot_63 : decode cX11_isDot 63 = .ok (.iaload, 1) := dk_46 rfl
theorem dX11_isDot_64 : decode cX11_isDot 64 = .ok (.iload_n 2, 1) := dk_28 rfl
theorem dX11_isDot_65 : decode cX11_isDot 65 = .ok (.if_icmp .ne 7, 3) := dk_160 rfl rfl rfl (by decide)
theorem dX11_isDot_68 : decode cX11_isDot 68 = .ok (.iconst 1, 1) := dk_4 rfl
theorem dX11_isDot_69 : decode cX11_isDot 69 = .ok (.goto 4, 3) := dk_167 rfl rfl rfl (by decide)
theorem dX11_isDot_72 : decode cX11_isDot 72 = .ok (.iconst 0, 1) := dk_3 rfl
theorem dX11_isDot_73 : decode cX11_isDot 73 = .ok (.istore_n 3, 1) := dk_62 rfl
theorem dX11_isDot_74 : decode cX11_isDot 74 = .ok (.iinc 4 1, 3) := dk_132 rfl rfl rfl rfl (by decide)
theorem dX11_isDot_77 : decode cX11_isDot 77 = .ok (.goto (-55), 3) := dk_167 rfl rfl rfl (by decide)
theorem dX11_isDot_80 : decode cX11_isDot 80 = .ok (.iload_n 3, 1) := dk_29 rfl
theorem dX11_isDot_81 : decode cX11_isDot 81 = .ok (.ireturn, 1) := dk_172 rfl
set_option maxHeartbeats 4000000 in
set_option maxRecDepth 100000 in
theorem m_isDot (l : Launch) (g : Gx) (h0 : Nat) (p0 : Int32) (p1 : Int32) (m_thrown : Int32) (a_tape : Nat) (m_taped : Int32) (m_size : Int32) (m_at : Int32) (m_end : Int32) (m_token : Int32) (m_whole : Int32) (m_nameSize : Int32) (m_fault : Int32) (m_place : Int32) (m_trouble : Int32) (a_letters : Nat) (m_failed : Int32) (m_hasHouse : Int32) (a_r : Nat) (a_fresh : Nat) (a_st : Nat) (a_undone : Nat) (a_kept : Nat) (m_undos : Int32) (m_images : Int32) (a_from : Nat) (a_begin : Nat) (a_motor : Nat) (a_change : Nat) (a_startFrame : Nat) (a_changeFrame : Nat) (a_lostAt : Nat) (a_blackAt : Nat) (a_slips : Nat) (a_leftArc : Nat) (a_died : Nat) (a_arcs : Nat) (m_bestSum : Int32) (m_nearest : Int32) (m_nearestTown : Int32) (a_there : Nat) (a_backAt : Nat) (a_sorted : Nat) (a_parts : Nat) (m_seed1 : Int32) (m_darkNow : Int32) (d_r : Nat → Int32) (d_st : Nat → Int32) (hv_p0 : IV p0 0 7) (hp_d_r : RInv d_r) : cI l g yX11_isDot cX11_isDot 5 (some .boolean) 0 0 0 0 [.ref h0, .int p0, .int p1] [(cO11_i1r1i10r1i2r5i2r12i3r4i2 h0 m_thrown a_tape m_taped m_size m_at m_end m_token m_whole m_nameSize m_fault m_place m_trouble a_letters m_failed m_hasHouse a_r a_fresh a_st a_undone a_kept m_undos m_images a_from a_begin a_motor a_change a_startFrame a_changeFrame a_lostAt a_blackAt a_slips a_leftArc a_died a_arcs m_bestSum m_nearest m_nearestTown a_there a_backAt a_sorted a_parts m_seed1 m_darkNow), (cAI g a_r 311 d_r), (cAI g a_st 44 d_st)] (fun r w => IV r 0 1 ∧ w = [(cO11_i1r1i10r1i2r5i2r12i3r4i2 h0 m_thrown a_tape m_taped m_size m_at m_end m_token m_whole m_nameSize m_fault m_place m_trouble a_letters m_failed m_hasHouse a_r a_fresh a_st a_undone a_kept m_undos m_images a_from a_begin a_motor a_change a_startFrame a_changeFrame a_lostAt a_blackAt a_slips a_leftArc a_died a_arcs m_bestSum m_nearest m_nearestTown a_there a_backAt a_sorted a_parts m_seed1 m_darkNow), (cAI g a_r 311 d_r), (cAI g a_st 44 d_st)]) := by
  refine cI.of (by decide) (Nat.le_of_ble_eq_true rfl) ?_
  intro p e s m args below meth c A X hr hi
  refine k_lveq [(0, .ref h0), (1, .int p0), (2, .int p1)] rfl ?_
  refine k_aload_n X dX11_isDot_0 0 rfl ?_
  refine k_get (ci := 11) X inlX11 rfl 17 (by decide) dX11_isDot_1 mw172 0 rfl rfl ?_
  refine k_bipush (v := 8) X dX11_isDot_4 (by decide) ?_
  refine k_iload_n X dX11_isDot_6 1 rfl ?_
  refine k_iadd X dX11_isDot_7 ?_
  refine k_nm (fun z_1 ez_1 => ?_)
  have i_2 : z_1.toInt = 8 + p0.toInt := in_add ez_1 (show IV 8 8 8 from (by decide)) hv_p0 (by decide) (by decide)
  have iv_3 : IV z_1 8 15 := iz2 i_2 hv_p0 (by decide) (by decide)
  refine k_iald X dX11_isDot_8 2 rfl (iv_in iv_3 (by decide) (by decide)) ?_
  refine k_nm (fun z_4 ez_4 => ?_)
  refine k_iload_n X dX11_isDot_9 2 rfl ?_
  refine k_ic_ne 17 X dX11_isDot_10 (by decide) (fun h_5 => ?_) (fun h_5 => ?_)
  · skip
    refine k_iconst (v := 0) X dX11_isDot_17 (by decide) ?_
    refine k_istore_n [(3, .int 0), (0, .ref h0), (1, .int p0), (2, .int p1)] X dX11_isDot_18 (by decide) rfl ?_
    refine k_iconst (v := 0) X dX11_isDot_19 (by decide) ?_
    refine k_istore [(4, .int 0), (3, .int 0), (0, .ref h0), (1, .int p0), (2, .int p1)] X dX11_isDot_20 (by decide) rfl ?_
    refine (fun hL : ∀ (nn_10 : Nat) (u_6 : Int32) (u_8 : Int32), (2147483647 - u_8.toInt).toNat = nn_10 → (IV u_6 0 1) → (IV u_8 0 255) → Wk p l e _ s m args below meth c _ A g _ _ _ [(cO11_i1r1i10r1i2r5i2r12i3r4i2 h0 m_thrown a_tape m_taped m_size m_at m_end m_token m_whole m_nameSize m_fault m_place m_trouble a_letters m_failed m_hasHouse a_r a_fresh a_st a_undone a_kept m_undos m_images a_from a_begin a_motor a_change a_startFrame a_changeFrame a_lostAt a_blackAt a_slips a_leftArc a_died a_arcs m_bestSum m_nearest m_nearestTown a_there a_backAt a_sorted a_parts m_seed1 m_darkNow), (cAI g a_r 311 d_r), (cAI g a_st 44 d_st)] [(4, .int u_8), (3, .int u_6), (0, .ref h0), (1, .int p0), (2, .int p1)] 22 [] => hL _ 0 0 rfl (iv_w (show IV 0 0 0 from (by decide)) (by decide) (by decide)) (iv_w (show IV 0 0 0 from (by decide)) (by decide) (by decide))) ?_
    refine fun nn_10 => Nat.strongRecOn nn_10 (fun nn_10 ih_12 => ?_)
    intro u_6 u_8 hm_11 hv_7 hv_9
    refine k_iload X dX11_isDot_22 0 rfl ?_
    refine k_aload_n X dX11_isDot_24 2 rfl ?_
    refine k_get (ci := 11) X inlX11 rfl 15 (by decide) dX11_isDot_25 mw170 0 rfl rfl ?_
    refine k_bipush (v := 8) X dX11_isDot_28 (by decide) ?_
    refine k_iald X dX11_isDot_30 1 rfl (by unfold vp_in; decide) ?_
    refine k_nm (fun z_13 ez_13 => ?_)
    have i_14 : z_13.toInt = (d_r 8).toInt := by rw [ez_13]; rfl
    have iv_15 : IV z_13 0 12 := rb_8 ez_13 hp_d_r
    refine k_ic_ge 80 X dX11_isDot_31 (by decide) (fun h_16 => ?_) (fun h_16 => ?_)
    · skip
      have j_17 : z_13.toInt ≤ u_8.toInt := iv_le h_16
      refine k_iload_n X dX11_isDot_80 1 rfl ?_
      exact k_zret X hr (zn_b (iv_w hv_7 (by decide) (by decide))) dX11_isDot_81 (Nat.le_of_ble_eq_true rfl) (Nat.le_of_ble_eq_true rfl) [0, 1, 2] (by decide) rfl rfl ⟨(iv_w hv_7 (by decide) (by decide)), rfl⟩
    · skip
      have j_18 : u_8.toInt < z_13.toInt := iv_nle h_16
      have iv_19 : IV u_8 0 11 := iv_ltL (iv_nle h_16) hv_9 iv_15 (by decide)
      have iv_20 : IV z_13 1 12 := iv_ltR (iv_nle h_16) hv_9 iv_15 (by decide)
      refine k_iload_n X dX11_isDot_34 1 rfl ?_
      refine k_if_ne 68 X dX11_isDot_35 (by decide) (fun h_21 => ?_) (fun h_21 => ?_)
      · skip
        have iv_22 : IV u_6 1 1 := iv_neL h_21 hv_7 (show IV 0 0 0 from (by decide)) (by decide)
        refine k_iconst (v := 1) X dX11_isDot_68 (by decide) ?_
        refine k_goto 73 X dX11_isDot_69 (by decide) ?_
        refine k_istore_n [(3, .int 1), (4, .int u_8), (0, .ref h0), (1, .int p0), (2, .int p1)] X dX11_isDot_73 (by decide) rfl ?_
        obtain ⟨z_23, ez_23⟩ : ∃ y : Int32, u_8 + Int32.ofInt 1 = y := ⟨_, rfl⟩
        refine k_iinc z_23 [(4, .int z_23), (3, .int 1), (0, .ref h0), (1, .int p0), (2, .int p1)] 1 X dX11_isDot_74 rfl ez_23 (by decide) rfl ?_
        have i_24 : z_23.toInt = u_8.toInt + 1 := in_inc ez_23 (by decide) iv_19 (by decide) (by decide)
        have iv_25 : IV z_23 1 12 := iz1 i_24 iv_19 (by decide) (by decide)
        refine k_goto 22 X dX11_isDot_77 (by decide) ?_
        exact ih_12 _ (by omega) 1 z_23 rfl (iv_w (show IV 1 1 1 from (by decide)) (by decide) (by decide)) (iv_w iv_25 (by decide) (by decide))
      · skip
        have iv_26 : IV u_6 0 0 := iv_meet hv_7 (iv_e h_21 (show IV 0 0 0 from (by decide))) (by decide) (by decide)
        refine k_aload_n X dX11_isDot_38 2 rfl ?_
        refine k_get (ci := 11) X inlX11 rfl 15 (by decide) dX11_isDot_39 mw170 0 rfl rfl ?_
        refine k_bipush (v := 44) X dX11_isDot_42 (by decide) ?_
        refine k_iconst (v := 3) X dX11_isDot_44 (by decide) ?_
        refine k_iload X dX11_isDot_45 0 rfl ?_
        refine k_imul X dX11_isDot_47 ?_
        refine k_nm (fun z_27 ez_27 => ?_)
        have i_28 : z_27.toInt = 3 * u_8.toInt := in_mul ez_27 (by decide) (by decide) iv_19 (by decide) (by decide)
        have iv_29 : IV z_27 0 33 := iz4 i_28 iv_19 (by decide) (by decide) (by decide)
        refine k_iadd X dX11_isDot_48 ?_
        refine k_nm (fun z_30 ez_30 => ?_)
        have i_31 : z_30.toInt = 44 + z_27.toInt := in_add ez_30 (show IV 44 44 44 from (by decide)) iv_29 (by decide) (by decide)
        have iv_32 : IV z_30 44 77 := iz2 i_31 iv_29 (by decide) (by decide)
        refine k_iald X dX11_isDot_49 1 rfl (iv_in iv_32 (by decide) (by decide)) ?_
        refine k_nm (fun z_33 ez_33 => ?_)
        have i_34 : z_30.toInt = 44 + 3 * u_8.toInt := by omega
        have iv_35 : IV z_33 0 7 := rb_44_3 ez_33 hp_d_r i_34 (iv_w iv_19 (by decide) (by decide))
        refine k_iload_n X dX11_isDot_50 3 rfl ?_
        refine k_ic_ne 72 X dX11_isDot_51 (by decide) (fun h_36 => ?_) (fun h_36 => ?_)
        · skip
          refine k_iconst (v := 0) X dX11_isDot_72 (by decide) ?_
          refine k_istore_n [(3, .int 0), (4, .int u_8), (0, .ref h0), (1, .int p0), (2, .int p1)] X dX11_isDot_73 (by decide) rfl ?_
          obtain ⟨z_37, ez_37⟩ : ∃ y : Int32, u_8 + Int32.ofInt 1 = y := ⟨_, rfl⟩
          refine k_iinc z_37 [(4, .int z_37), (3, .int 0), (0, .ref h0), (1, .int p0), (2, .int p1)] 1 X dX11_isDot_74 rfl ez_37 (by decide) rfl ?_
          have i_38 : z_37.toInt = u_8.toInt + 1 := in_inc ez_37 (by decide) iv_19 (by decide) (by decide)
          have iv_39 : IV z_37 1 12 := iz1 i_38 iv_19 (by decide) (by decide)
          refine k_goto 22 X dX11_isDot_77 (by decide) ?_
          exact ih_12 _ (by omega) 0 z_37 rfl (iv_w (show IV 0 0 0 from (by decide)) (by decide) (by decide)) (iv_w iv_39 (by decide) (by decide))
        · skip
          refine k_aload_n X dX11_isDot_54 2 rfl ?_
          refine k_get (ci := 11) X inlX11 rfl 17 (by decide) dX11_isDot_55 mw172 0 rfl rfl ?_
          refine k_bipush (v := 16) X dX11_isDot_58 (by decide) ?_
          refine k_iload X dX11_isDot_60 0 rfl ?_
          refine k_iadd X dX11_isDot_62 ?_
          refine k_nm (fun z_40 ez_40 => ?_)
          have i_41 : z_40.toInt = 16 + u_8.toInt := in_add ez_40 (show IV 16 16 16 from (by decide)) iv_19 (by decide) (by decide)
          have iv_42 : IV z_40 16 27 := iz2 i_41 iv_19 (by decide) (by decide)
          refine k_iald X dX11_isDot_63 2 rfl (iv_in iv_42 (by decide) (by decide)) ?_
          refine k_nm (fun z_43 ez_43 => ?_)
          refine k_iload_n X dX11_isDot_64 4 rfl ?_
          refine k_ic_ne 72 X dX11_isDot_65 (by decide) (fun h_44 => ?_) (fun h_44 => ?_)
          · skip
            refine k_iconst (v := 0) X dX11_isDot_72 (by decide) ?_
            refine k_istore_n [(3, .int 0), (4, .int u_8), (0, .ref h0), (1, .int p0), (2, .int p1)] X dX11_isDot_73 (by decide) rfl ?_
            obtain ⟨z_45, ez_45⟩ : ∃ y : Int32, u_8 + Int32.ofInt 1 = y := ⟨_, rfl⟩
            refine k_iinc z_45 [(4, .int z_45), (3, .int 0), (0, .ref h0), (1, .int p0), (2, .int p1)] 1 X dX11_isDot_74 rfl ez_45 (by decide) rfl ?_
            have i_46 : z_45.toInt = u_8.toInt + 1 := in_inc ez_45 (by decide) iv_19 (by decide) (by decide)
            have iv_47 : IV z_45 1 12 := iz1 i_46 iv_19 (by decide) (by decide)
            refine k_goto 22 X dX11_isDot_77 (by decide) ?_
            exact ih_12 _ (by omega) 0 z_45 rfl (iv_w (show IV 0 0 0 from (by decide)) (by decide) (by decide)) (iv_w iv_47 (by decide) (by decide))
          · skip
            refine k_iconst (v := 1) X dX11_isDot_68 (by decide) ?_
            refine k_goto 73 X dX11_isDot_69 (by decide) ?_
            refine k_istore_n [(3, .int 1), (4, .int u_8), (0, .ref h0), (1, .int p0), (2, .int p1)] X dX11_isDot_73 (by decide) rfl ?_
            obtain ⟨z_48, ez_48⟩ : ∃ y : Int32, u_8 + Int32.ofInt 1 = y := ⟨_, rfl⟩
            refine k_iinc z_48 [(4, .int z_48), (3, .int 1), (0, .ref h0), (1, .int p0), (2, .int p1)] 1 X dX11_isDot_74 rfl ez_48 (by decide) rfl ?_
            have i_49 : z_48.toInt = u_8.toInt + 1 := in_inc ez_48 (by decide) iv_19 (by decide) (by decide)
            have iv_50 : IV z_48 1 12 := iz1 i_49 iv_19 (by decide) (by decide)
            refine k_goto 22 X dX11_isDot_77 (by decide) ?_
            exact ih_12 _ (by omega) 1 z_48 rfl (iv_w (show IV 1 1 1 from (by decide)) (by decide) (by decide)) (iv_w iv_50 (by decide) (by decide))
  · skip
    refine k_iconst (v := 1) X dX11_isDot_13 (by decide) ?_
    refine k_goto 18 X dX11_isDot_14 (by decide) ?_
    refine k_istore_n [(3, .int 1), (0, .ref h0), (1, .int p0), (2, .int p1)] X dX11_isDot_18 (by decide) rfl ?_
    refine k_iconst (v := 0) X dX11_isDot_19 (by decide) ?_
    refine k_istore [(4, .int 0), (3, .int 1), (0, .ref h0), (1, .int p0), (2, .int p1)] X dX11_isDot_20 (by decide) rfl ?_
    refine (fun hL : ∀ (nn_55 : Nat) (u_51 : Int32) (u_53 : Int32), (2147483647 - u_53.toInt).toNat = nn_55 → (IV u_51 1 1) → (IV u_53 0 255) → Wk p l e _ s m args below meth c _ A g _ _ _ [(cO11_i1r1i10r1i2r5i2r12i3r4i2 h0 m_thrown a_tape m_taped m_size m_at m_end m_token m_whole m_nameSize m_fault m_place m_trouble a_letters m_failed m_hasHouse a_r a_fresh a_st a_undone a_kept m_undos m_images a_from a_begin a_motor a_change a_startFrame a_changeFrame a_lostAt a_blackAt a_slips a_leftArc a_died a_arcs m_bestSum m_nearest m_nearestTown a_there a_backAt a_sorted a_parts m_seed1 m_darkNow), (cAI g a_r 311 d_r), (cAI g a_st 44 d_st)] [(4, .int u_53), (3, .int u_51), (0, .ref h0), (1, .int p0), (2, .int p1)] 22 [] => hL _ 1 0 rfl (iv_w (show IV 1 1 1 from (by decide)) (by decide) (by decide)) (iv_w (show IV 0 0 0 from (by decide)) (by decide) (by decide))) ?_
    refine fun nn_55 => Nat.strongRecOn nn_55 (fun nn_55 ih_57 => ?_)
    intro u_51 u_53 hm_56 hv_52 hv_54
    refine k_iload X dX11_isDot_22 0 rfl ?_
    refine k_aload_n X dX11_isDot_24 2 rfl ?_
    refine k_get (ci := 11) X inlX11 rfl 15 (by decide) dX11_isDot_25 mw170 0 rfl rfl ?_
    refine k_bipush (v := 8) X dX11_isDot_28 (by decide) ?_
    refine k_iald X dX11_isDot_30 1 rfl (by unfold vp_in; decide) ?_
    refine k_nm (fun z_58 ez_58 => ?_)
    have i_59 : z_58.toInt = (d_r 8).toInt := by rw [ez_58]; rfl
    have iv_60 : IV z_58 0 12 := rb_8 ez_58 hp_d_r
    refine k_ic_ge 80 X dX11_isDot_31 (by decide) (fun h_61 => ?_) (fun h_61 => ?_)
    · skip
      have j_62 : z_58.toInt ≤ u_53.toInt := iv_le h_61
      refine k_iload_n X dX11_isDot_80 1 rfl ?_
      exact k_zret X hr (zn_b (iv_w hv_52 (by decide) (by decide))) dX11_isDot_81 (Nat.le_of_ble_eq_true rfl) (Nat.le_of_ble_eq_true rfl) [0, 1, 2] (by decide) rfl rfl ⟨(iv_w hv_52 (by decide) (by decide)), rfl⟩
    · skip
      have j_63 : u_53.toInt < z_58.toInt := iv_nle h_61
      have iv_64 : IV u_53 0 11 := iv_ltL (iv_nle h_61) hv_54 iv_60 (by decide)
      have iv_65 : IV z_58 1 12 := iv_ltR (iv_nle h_61) hv_54 iv_60 (by decide)
      refine k_iload_n X dX11_isDot_34 1 rfl ?_
      refine k_if_ne 68 X dX11_isDot_35 (by decide) (fun h_66 => ?_) (fun h_66 => (iv_eqN h_66 hv_52 (show IV 0 0 0 from (by decide)) (by decide)).elim)
      refine k_iconst (v := 1) X dX11_isDot_68 (by decide) ?_
      refine k_goto 73 X dX11_isDot_69 (by decide) ?_
      refine k_istore_n [(3, .int 1), (4, .int u_53), (0, .ref h0), (1, .int p0), (2, .int p1)] X dX11_isDot_73 (by decide) rfl ?_
      obtain ⟨z_67, ez_67⟩ : ∃ y : Int32, u_53 + Int32.ofInt 1 = y := ⟨_, rfl⟩
      refine k_iinc z_67 [(4, .int z_67), (3, .int 1), (0, .ref h0), (1, .int p0), (2, .int p1)] 1 X dX11_isDot_74 rfl ez_67 (by decide) rfl ?_
      have i_68 : z_67.toInt = u_53.toInt + 1 := in_inc ez_67 (by decide) iv_64 (by decide) (by decide)
      have iv_69 : IV z_67 1 12 := iz1 i_68 iv_64 (by decide) (by decide)
      refine k_goto 22 X dX11_isDot_77 (by decide) ?_
      exact ih_57 _ (by omega) 1 z_67 rfl (iv_w (show IV 1 1 1 from (by decide)) (by decide) (by decide)) (iv_w iv_69 (by decide) (by decide))

theorem dX11_weightOf_0 : decode cX11_weightOf 0 = .ok (.lconst 1, 1) := dk_10 rfl
theorem dX11_weightOf_1 : decode cX11_weightOf 1 = .ok (.lstore_n 3, 1) := dk_66 rfl
theorem dX11_weightOf_2 : decode cX11_weightOf 2 = .ok (.iconst 0, 1) := dk_3 rfl
theorem dX11_weightOf_3 : decode cX11_weightOf 3 = .ok (.istore 5, 2) := dk_54 rfl rfl rfl
theorem dX11_weightOf_5 : decode cX11_weightOf 5 = .ok (.iload 5, 2) := dk_21 rfl rfl rfl
theorem dX11_weightOf_7 : decode cX11_weightOf 7 = .ok (.aload_n 0, 1) := dk_42 rfl
theorem dX11_weightOf_8 : decode cX11_weightOf 8 = .ok (.getfield 20, 3) := dk_180 rfl rfl rfl rfl
theorem dX11_weightOf_11 : decode cX11_weightOf 11 = .ok (.bipush 8, 2) := dk_16 rfl rfl (by decide)
theorem dX11_weightOf_13 : decode cX11_weightOf 13 = .ok (.iaload, 1) := dk_46 rfl
theorem dX11_weightOf_14 : decode cX11_weightOf 14 = .ok (.if_icmp .ge 89, 3) := dk_162 rfl rfl rfl (by decide)
theorem dX11_weightOf_17 : decode cX11_weightOf 17 = .ok (.aload_n 0, 1) := dk_42 rfl
theorem dX11_weightOf_18 : decode cX11_weightOf 18 = .ok (.getfield 20, 3) := dk_180 rfl rfl rfl rfl
theorem dX11_weightOf_21 : decode cX11_weightOf 21 = .ok (.bipush 44, 2) := dk_16 rfl rfl (by decide)
theorem dX11_weightOf_23 : decode cX11_weightOf 23 = .ok (.iconst 3, 1) := dk_6 rfl
theorem dX11_weightOf_24 : decode cX11_weightOf 24 = .ok (.iload 5, 2) := dk_21 rfl rfl rfl
theorem dX11_weightOf_26 : decode cX11_weightOf 26 = .ok (.imul, 1) := dk_104 rfl
theorem dX11_weightOf_27 : decode cX11_weightOf 27 = .ok (.iadd, 1) := dk_96 rfl
theorem dX11_weightOf_28 : decode cX11_weightOf 28 = .ok (.iaload, 1) := dk_46 rfl
theorem dX11_weightOf_29 : decode cX11_weightOf 29 = .ok (.iload_n 1, 1) := dk_27 rfl
theorem dX11_weightOf_30 : decode cX11_weightOf 30 = .ok (.if_icmp .eq 6, 3) := dk_159 rfl rfl rfl (by decide)
theorem dX11_weightOf_33 : decode cX11_weightOf 33 = .ok (.goto 64, 3) := dk_167 rfl rfl rfl (by decide)
theorem dX11_weightOf_36 : decode cX11_weightOf 36 = .ok (.aload_n 0, 1) := dk_42 rfl
theorem dX11_weightOf_37 : decode cX11_weightOf 37 = .ok (.getfield 20, 3) := dk_180 rfl rfl rfl rfl
theorem dX11_weightOf_40 : decode cX11_weightOf 40 = .ok (.bipush 40, 2) := dk_16 rfl rfl (by decide)
theorem dX11_weightOf_42 : decode cX11_weightOf 42 = .ok (.aload_n 0, 1) := dk_42 rfl
theorem dX11_weightOf_43 : decode cX11_weightOf 43 = .ok (.getfield 20, 3) := dk_180 rfl rfl rfl rfl
theorem dX11_weightOf_46 : decode cX11_weightOf 46 = .ok (.bipush 44, 2) := dk_16 rfl rfl (by decide)
theorem dX11_weightOf_48 : decode cX11_weightOf 48 = .ok (.iconst 3, 1) := dk_6 rfl
theorem dX11_weightOf_49 : decode cX11_weightOf 49 = .ok (.iload 5, 2) := dk_21 rfl rfl rfl
theorem dX11_weightOf_51 : decode cX11_weightOf 51 = .ok (.imul, 1) := dk_104 rfl
theorem dX11_weightOf_52 : decode cX11_weightOf 52 = .ok (.iadd, 1) := dk_96 rfl
theorem dX11_weightOf_53 : decode cX11_weightOf 53 = .ok (.iconst 2, 1) := dk_5 rfl
theorem dX11_weightOf_54 : decode cX11_weightOf 54 = .ok (.iadd, 1) := dk_96 rfl
theorem dX11_weightOf_55 : decode cX11_weightOf 55 = .ok (.iaload, 1) := dk_46 rfl
theorem dX11_weightOf_56 : decode cX11_weightOf 56 = .ok (.iadd, 1) := dk_96 rfl
theorem dX11_weightOf_57 : decode cX11_weightOf 57 = .ok (.iaload, 1) := dk_46 rfl
theorem dX11_weightOf_58 : decode cX11_weightOf 58 = .ok (.istore 6, 2) := dk_54 rfl rfl rfl
theorem dX11_weightOf_60 : decode cX11_weightOf 60 = .ok (.lload_n 3, 1) := dk_33 rfl
theorem dX11_weightOf_61 : decode cX11_weightOf 61 = .ok (.aload_n 0, 1) := dk_42 rfl
theorem dX11_weightOf_62 : decode cX11_weightOf 62 = .ok (.getfield 26, 3) := dk_180 rfl rfl rfl rfl
theorem dX11_weightOf_65 : decode cX11_weightOf 65 = .ok (.bipush 16, 2) := dk_16 rfl rfl (by decide)
theorem dX11_weightOf_67 : decode cX11_weightOf 67 = .ok (.iload 5, 2) := dk_21 rfl rfl rfl
theorem dX11_weightOf_69 : decode cX11_weightOf 69 = .ok (.iadd, 1) := dk_96 rfl
theorem dX11_weightOf_70 : decode cX11_weightOf 70 = .ok (.iaload, 1) := dk_46 rfl
theorem dX11_weightOf_71 : decode cX11_weightOf 71 = .ok (.iload_n 2, 1) := dk_28 rfl
theorem dX11_weightOf_72 : decode cX11_weightOf 72 = .ok (.iconst 2, 1) := dk_5 rfl
theorem dX11_weightOf_73 : decode cX11_weightOf 73 = .ok (.isub, 1) := dk_100 rfl
theorem dX11_weightOf_74 : decode cX11_weightOf 74 = .ok (.iload_n 2, 1) := dk_28 rfl
theorem dX11_weightOf_75 : decode cX11_weightOf 75 = .ok (.iconst 2, 1) := dk_5 rfl
theorem dX11_weightOf_76 : decode cX11_weightOf 76 = .ok (.iadd, 1) := dk_96 rfl
theorem dX11_weightOf_77 : decode cX11_weightOf 77 = .ok (.invokestatic 182, 3) := dk_184 rfl rfl rfl rfl
theorem dX11_weightOf_80 : decode cX11_weightOf 80 = .ok (.ifCond .eq 9, 3) := dk_153 rfl rfl rfl (by decide)
theorem dX11_weightOf_83 : decode cX11_weightOf 83 = .ok (.iload 6, 2) := dk_21 rfl rfl rfl
theorem dX11_weightOf_85 : decode cX11_weightOf 85 = .ok (.i2l, 1) := dk_133 rfl
theorem dX11_weightOf_86 : decode cX11_weightOf 86 = .ok (.goto 9, 3) := dk_167 rfl rfl rfl (by decide)
theorem dX11_weightOf_89 : decode cX11_weightOf 89 = .ok (.bipush 10, 2) := dk_16 rfl rfl (by decide)
theorem dX11_weightOf_91 : decode cX11_weightOf 91 = .ok (.iload 6, 2) := dk_21 rfl rfl rfl
theorem dX11_weightOf_93 : decode cX11_weightOf 93 = .ok (.isub, 1) := dk_100 rfl
theorem dX11_weightOf_94 : decode cX11_weightOf 94 = .ok (.i2l, 1) := dk_133 rfl
theorem dX11_weightOf_95 : decode cX11_weightOf 95 = .ok (.lmul, 1) := dk_105 rfl
theorem dX11_weightOf_96 : decode cX11_weightOf 96 = .ok (.lstore_n 3, 1) := dk_66 rfl
theorem dX11_weightOf_97 : decode cX11_weightOf 97 = .ok (.iinc 5 1, 3) := by decide +kernel
theorem dX11_weightOf_100 : decode cX11_weightOf 100 = .ok (.goto (-95), 3) := by decide +kernel
theorem dX11_weightOf_103 : decode cX11_weightOf 103 = .ok (.lload_n 3, 1) := by decide +kernel
theorem dX11_weightOf_104 : decode cX11_weightOf 104 = .ok (.lreturn, 1) := by decide +kernel
set_option maxHeartbeats 4000000 in
set_option maxRecDepth 100000 in
theorem m_weightOf (l : Launch) (g : Gx) (h0 : Nat) (p0 : Int32) (p1 : Int32) (m_thrown : Int32) (a_tape : Nat) (m_taped : Int32) (m_size : Int32) (m_at : Int32) (m_end : Int32) (m_token : Int32) (m_whole : Int32) (m_nameSize : Int32) (m_fault : Int32) (m_place : Int32) (m_trouble : Int32) (a_letters : Nat) (m_failed : Int32) (m_hasHouse : Int32) (a_r : Nat) (a_fresh : Nat) (a_st : Nat) (a_undone : Nat) (a_kept : Nat) (m_undos : Int32) (m_images : Int32) (a_from : Nat) (a_begin : Nat) (a_motor : Nat) (a_change : Nat) (a_startFrame : Nat) (a_changeFrame : Nat) (a_lostAt : Nat) (a_blackAt : Nat) (a_slips : Nat) (a_leftArc : Nat) (a_died : Nat) (a_arcs : Nat) (m_bestSum : Int32) (m_nearest : Int32) (m_nearestTown : Int32) (a_there : Nat) (a_backAt : Nat) (a_sorted : Nat) (a_parts : Nat) (m_seed1 : Int32) (m_darkNow : Int32) (d_r : Nat → Int32) (d_st : Nat → Int32) (hv_p0 : IV p0 0 7) (hp_d_r : RInv d_r) : cL l g yX11_weightOf cX11_weightOf 7 (some .long) 1 22 0 0 [.ref h0, .int p0, .int p1] [(cO11_i1r1i10r1i2r5i2r12i3r4i2 h0 m_thrown a_tape m_taped m_size m_at m_end m_token m_whole m_nameSize m_fault m_place m_trouble a_letters m_failed m_hasHouse a_r a_fresh a_st a_undone a_kept m_undos m_images a_from a_begin a_motor a_change a_startFrame a_changeFrame a_lostAt a_blackAt a_slips a_leftArc a_died a_arcs m_bestSum m_nearest m_nearestTown a_there a_backAt a_sorted a_parts m_seed1 m_darkNow), (cAI g a_r 311 d_r), (cAI g a_st 44 d_st)] (fun r w => w = [(cO11_i1r1i10r1i2r5i2r12i3r4i2 h0 m_thrown a_tape m_taped m_size m_at m_end m_token m_whole m_nameSize m_fault m_place m_trouble a_letters m_failed m_hasHouse a_r a_fresh a_st a_undone a_kept m_undos m_images a_from a_begin a_motor a_change a_startFrame a_changeFrame a_lostAt a_blackAt a_slips a_leftArc a_died a_arcs m_bestSum m_nearest m_nearestTown a_there a_backAt a_sorted a_parts m_seed1 m_darkNow), (cAI g a_r 311 d_r), (cAI g a_st 44 d_st)]) := by
  refine cL.of (by decide) (Nat.le_of_ble_eq_true rfl) ?_
  intro p e s m args below meth c A X hr hi
  refine k_lveq [(0, .ref h0), (1, .int p0), (2, .int p1)] rfl ?_
  refine k_lconst (v := 1) X dX11_weightOf_0 (by decide) ?_
  refine k_lstore_n [(3, .long 1), (0, .ref h0), (1, .int p0), (2, .int p1)] X dX11_weightOf_1 (by decide) rfl ?_
  refine k_iconst (v := 0) X dX11_weightOf_2 (by decide) ?_
  refine k_istore [(5, .int 0), (3, .long 1), (0, .ref h0), (1, .int p0), (2, .int p1)] X dX11_weightOf_3 (by decide) rfl ?_
  refine (fun hL : ∀ (nn_4 : Nat) (u_1 : Int64) (u_2 : Int32), (2147483647 - u_2.toInt).toNat = nn_4 → (IV u_2 0 255) → Wk p l e _ s m args below meth c _ A g _ _ _ [(cO11_i1r1i10r1i2r5i2r12i3r4i2 h0 m_thrown a_tape m_taped m_size m_at m_end m_token m_whole m_nameSize m_fault m_place m_trouble a_letters m_failed m_hasHouse a_r a_fresh a_st a_undone a_kept m_undos m_images a_from a_begin a_motor a_change a_startFrame a_changeFrame a_lostAt a_blackAt a_slips a_leftArc a_died a_arcs m_bestSum m_nearest m_nearestTown a_there a_backAt a_sorted a_parts m_seed1 m_darkNow), (cAI g a_r 311 d_r), (cAI g a_st 44 d_st)] [(5, .int u_2), (3, .long u_1), (0, .ref h0), (1, .int p0), (2, .int p1)] 5 [] => hL _ 1 0 rfl (iv_w (show IV 0 0 0 from (by decide)) (by decide) (by decide))) ?_
  refine fun nn_4 => Nat.strongRecOn nn_4 (fun nn_4 ih_6 => ?_)
  intro u_1 u_2 hm_5 hv_3
  refine k_iload X dX11_weightOf_5 0 rfl ?_
  refine k_aload_n X dX11_weightOf_7 2 rfl ?_
  refine k_get (ci := 11) X inlX11 rfl 15 (by decide) dX11_weightOf_8 mw170 0 rfl rfl ?_
  refine k_bipush (v := 8) X dX11_weightOf_11 (by decide) ?_
  refine k_iald X dX11_weightOf_13 1 rfl (by unfold vp_in; decide) ?_
  refine k_nm (fun z_7 ez_7 => ?_)
  have i_8 : z_7.toInt = (d_r 8).toInt := by rw [ez_7]; rfl
  have iv_9 : IV z_7 0 12 := rb_8 ez_7 hp_d_r
  refine k_ic_ge 103 X dX11_weightOf_14 (by decide) (fun h_10 => ?_) (fun h_10 => ?_)
  · skip
    have j_11 : z_7.toInt ≤ u_2.toInt := iv_le h_10
    refine k_lload_n X dX11_weightOf_103 1 rfl ?_
    exact k_lret X hr dX11_weightOf_104 (Nat.le_of_ble_eq_true rfl) (Nat.le_of_ble_eq_true rfl) [0, 1, 2] (by decide) rfl rfl rfl
  · skip
    have j_12 : u_2.toInt < z_7.toInt := iv_nle h_10
    have iv_13 : IV u_2 0 11 := iv_ltL (iv_nle h_10) hv_3 iv_9 (by decide)
    have iv_14 : IV z_7 1 12 := iv_ltR (iv_nle h_10) hv_3 iv_9 (by decide)
    refine k_aload_n X dX11_weightOf_17 2 rfl ?_
    refine k_get (ci := 11) X inlX11 rfl 15 (by decide) dX11_weightOf_18 mw170 0 rfl rfl ?_
    refine k_bipush (v := 44) X dX11_weightOf_21 (by decide) ?_
    refine k_iconst (v := 3) X dX11_weightOf_23 (by decide) ?_
    refine k_iload X dX11_weightOf_24 0 rfl ?_
    refine k_imul X dX11_weightOf_26 ?_
    refine k_nm (fun z_15 ez_15 => ?_)
    have i_16 : z_15.toInt = 3 * u_2.toInt := in_mul ez_15 (by decide) (by decide) iv_13 (by decide) (by decide)
    have iv_17 : IV z_15 0 33 := iz4 i_16 iv_13 (by decide) (by decide) (by decide)
    refine k_iadd X dX11_weightOf_27 ?_
    refine k_nm (fun z_18 ez_18 => ?_)
    have i_19 : z_18.toInt = 44 + z_15.toInt := in_add ez_18 (show IV 44 44 44 from (by decide)) iv_17 (by decide) (by decide)
    have iv_20 : IV z_18 44 77 := iz2 i_19 iv_17 (by decide) (by decide)
    refine k_iald X dX11_weightOf_28 1 rfl (iv_in iv_20 (by decide) (by decide)) ?_
    refine k_nm (fun z_21 ez_21 => ?_)
    have i_22 : z_18.toInt = 44 + 3 * u_2.toInt := by omega
    have iv_23 : IV z_21 0 7 := rb_44_3 ez_21 hp_d_r i_22 (iv_w iv_13 (by decide) (by decide))
    refine k_iload_n X dX11_weightOf_29 3 rfl ?_
    refine k_ic_eq 36 X dX11_weightOf_30 (by decide) (fun h_24 => ?_) (fun h_24 => ?_)
    · skip
      refine k_aload_n X dX11_weightOf_36 2 rfl ?_
      refine k_get (ci := 11) X inlX11 rfl 15 (by decide) dX11_weightOf_37 mw170 0 rfl rfl ?_
      refine k_bipush (v := 40) X dX11_weightOf_40 (by decide) ?_
      refine k_aload_n X dX11_weightOf_42 2 rfl ?_
      refine k_get (ci := 11) X inlX11 rfl 15 (by decide) dX11_weightOf_43 mw170 0 rfl rfl ?_
      refine k_bipush (v := 44) X dX11_weightOf_46 (by decide) ?_
      refine k_iconst (v := 3) X dX11_weightOf_48 (by decide) ?_
      refine k_iload X dX11_weightOf_49 0 rfl ?_
      refine k_imul X dX11_weightOf_51 ?_
      refine k_to z_15 ez_15.symm ?_
      refine k_iadd X dX11_weightOf_52 ?_
      refine k_to z_18 ez_18.symm ?_
      refine k_iconst (v := 2) X dX11_weightOf_53 (by decide) ?_
      refine k_iadd X dX11_weightOf_54 ?_
      refine k_nm (fun z_25 ez_25 => ?_)
      have i_26 : z_25.toInt = z_18.toInt + 2 := in_add ez_25 iv_20 (show IV 2 2 2 from (by decide)) (by decide) (by decide)
      have iv_27 : IV z_25 46 79 := iz1 i_26 iv_20 (by decide) (by decide)
      refine k_iald X dX11_weightOf_55 1 rfl (iv_in iv_27 (by decide) (by decide)) ?_
      refine k_nm (fun z_28 ez_28 => ?_)
      have i_29 : z_25.toInt = 46 + 3 * u_2.toInt := by omega
      have iv_30 : IV z_28 0 3 := rb_46_3 ez_28 hp_d_r i_29 (iv_w iv_13 (by decide) (by decide))
      refine k_iadd X dX11_weightOf_56 ?_
      refine k_nm (fun z_31 ez_31 => ?_)
      have i_32 : z_31.toInt = 40 + z_28.toInt := in_add ez_31 (show IV 40 40 40 from (by decide)) iv_30 (by decide) (by decide)
      have iv_33 : IV z_31 40 43 := iz2 i_32 iv_30 (by decide) (by decide)
      refine k_iald X dX11_weightOf_57 1 rfl (iv_in iv_33 (by decide) (by decide)) ?_
      refine k_nm (fun z_34 ez_34 => ?_)
      have i_35 : z_31.toInt = 40 + 1 * z_28.toInt := by omega
      have iv_36 : IV z_34 0 9 := rb_40_1 ez_34 hp_d_r i_35 (iv_w iv_30 (by decide) (by decide))
      refine k_istore [(6, .int z_34), (5, .int u_2), (3, .long u_1), (0, .ref h0), (1, .int p0), (2, .int p1)] X dX11_weightOf_58 (by decide) rfl ?_
      refine k_lload_n X dX11_weightOf_60 2 rfl ?_
      refine k_aload_n X dX11_weightOf_61 3 rfl ?_
      refine k_get (ci := 11) X inlX11 rfl 17 (by decide) dX11_weightOf_62 mw172 0 rfl rfl ?_
      refine k_bipush (v := 16) X dX11_weightOf_65 (by decide) ?_
      refine k_iload X dX11_weightOf_67 1 rfl ?_
      refine k_iadd X dX11_weightOf_69 ?_
      refine k_nm (fun z_37 ez_37 => ?_)
      have i_38 : z_37.toInt = 16 + u_2.toInt := in_add ez_37 (show IV 16 16 16 from (by decide)) iv_13 (by decide) (by decide)
      have iv_39 : IV z_37 16 27 := iz2 i_38 iv_13 (by decide) (by decide)
      refine k_iald X dX11_weightOf_70 2 rfl (iv_in iv_39 (by decide) (by decide)) ?_
      refine k_nm (fun z_40 ez_40 => ?_)
      refine k_iload_n X dX11_weightOf_71 5 rfl ?_
      refine k_iconst (v := 2) X dX11_weightOf_72 (by decide) ?_
      refine k_isub X dX11_weightOf_73 ?_
      refine k_nm (fun z_41 ez_41 => ?_)
      refine k_iload_n X dX11_weightOf_74 5 rfl ?_
      refine k_iconst (v := 2) X dX11_weightOf_75 (by decide) ?_
      refine k_iadd X dX11_weightOf_76 ?_
      refine k_nm (fun z_43 ez_43 => ?_)
      refine k_callSI (n := 3) (As := [.int z_40, .int z_41, .int z_43]) (st := [.long u_1]) X [] [(cO11_i1r1i10r1i2r5i2r12i3r4i2 h0 m_thrown a_tape m_taped m_size m_at m_end m_token m_whole m_nameSize m_fault m_place m_trouble a_letters m_failed m_hasHouse a_r a_fresh a_st a_undone a_kept m_undos m_images a_from a_begin a_motor a_change a_startFrame a_changeFrame a_lostAt a_blackAt a_slips a_leftArc a_died a_arcs m_bestSum m_nearest m_nearestTown a_there a_backAt a_sorted a_parts m_seed1 m_darkNow), (cAI g a_r 311 d_r), (cAI g a_st 44 d_st)] [] [0, 1, 2] (m_in l g z_40 z_41 z_43) dX11_weightOf_77 mw482 mw483 mw5 mw484 yk_yX11_in_3 rfl (Nat.le_of_ble_eq_true rfl) (Nat.le_of_ble_eq_true rfl) (Nat.le_of_ble_eq_true rfl) (Nat.le_of_ble_eq_true rfl) (Nat.le_of_ble_eq_true rfl) rfl rfl (by decide) rfl (by decide) (by decide) ?_
      rintro r_45 w ⟨iv_46, hk_47, hk_48, rfl⟩
      refine k_ws [(cO11_i1r1i10r1i2r5i2r12i3r4i2 h0 m_thrown a_tape m_taped m_size m_at m_end m_token m_whole m_nameSize m_fault m_place m_trouble a_letters m_failed m_hasHouse a_r a_fresh a_st a_undone a_kept m_undos m_images a_from a_begin a_motor a_change a_startFrame a_changeFrame a_lostAt a_blackAt a_slips a_leftArc a_died a_arcs m_bestSum m_nearest m_nearestTown a_there a_backAt a_sorted a_parts m_seed1 m_darkNow), (cAI g a_r 311 d_r), (cAI g a_st 44 d_st)] rfl ?_
      refine k_if_eq 89 X dX11_weightOf_80 (by decide) (fun h_49 => ?_) (fun h_49 => ?_)
      · skip
        have iv_50 : IV r_45 0 0 := iv_meet iv_46 (iv_e h_49 (show IV 0 0 0 from (by decide))) (by decide) (by decide)
        have hc_51 := hk_48 (iv_eq iv_50 (show IV 0 0 0 from (by decide)))
        have j_52 : z_40.toInt < z_41.toInt ∨ z_43.toInt < z_40.toInt := hc_51
        refine k_bipush (v := 10) X dX11_weightOf_89 (by decide) ?_
        refine k_iload X dX11_weightOf_91 0 rfl ?_
        refine k_isub X dX11_weightOf_93 ?_
        refine k_nm (fun z_53 ez_53 => ?_)
        have i_54 : z_53.toInt = 10 - z_34.toInt := in_sub ez_53 (show IV 10 10 10 from (by decide)) iv_36 (by decide) (by decide)
        have iv_55 : IV z_53 1 10 := iz7 i_54 iv_36 (by decide) (by decide)
        refine k_i2l X dX11_weightOf_94 ?_
        refine k_nmL (fun y_56 ey_56 => ?_)
        refine k_lmul X dX11_weightOf_95 ?_
        refine k_nmL (fun y_57 ey_57 => ?_)
        refine k_lstore_n [(3, .long y_57), (6, .int z_34), (5, .int u_2), (0, .ref h0), (1, .int p0), (2, .int p1)] X dX11_weightOf_96 (by decide) rfl ?_
        obtain ⟨z_58, ez_58⟩ : ∃ y : Int32, u_2 + Int32.ofInt 1 = y := ⟨_, rfl⟩
        refine k_iinc z_58 [(5, .int z_58), (3, .long y_57), (6, .int z_34), (0, .ref h0), (1, .int p0), (2, .int p1)] 2 X dX11_weightOf_97 rfl ez_58 (by decide) rfl ?_
        have i_59 : z_58.toInt = u_2.toInt + 1 := in_inc ez_58 (by decide) iv_13 (by decide) (by decide)
        have iv_60 : IV z_58 1 12 := iz1 i_59 iv_13 (by decide) (by decide)
        refine k_goto 5 X dX11_weightOf_100 (by decide) ?_
        refine k_lv [(5, .int z_58), (3, .long y_57), (0, .ref h0), (1, .int p0), (2, .int p1)] [0, 1, 3, 4, 5] rfl ?_
        exact ih_6 _ (by omega) y_57 z_58 rfl (iv_w iv_60 (by decide) (by decide))
      · skip
        have hc_61 := hk_47.resolve_left h_49
        have j_62 : z_41.toInt ≤ z_40.toInt := hc_61.1
        have j_63 : z_40.toInt ≤ z_43.toInt := hc_61.2
        have iv_64 : IV r_45 1 1 := iv_neL h_49 iv_46 (show IV 0 0 0 from (by decide)) (by decide)
        refine k_iload X dX11_weightOf_83 0 rfl ?_
        refine k_i2l X dX11_weightOf_85 ?_
        refine k_nmL (fun y_65 ey_65 => ?_)
        refine k_goto 95 X dX11_weightOf_86 (by decide) ?_
        refine k_lmul X dX11_weightOf_95 ?_
        refine k_nmL (fun y_66 ey_66 => ?_)
        refine k_lstore_n [(3, .long y_66), (6, .int z_34), (5, .int u_2), (0, .ref h0), (1, .int p0), (2, .int p1)] X dX11_weightOf_96 (by decide) rfl ?_
        obtain ⟨z_67, ez_67⟩ : ∃ y : Int32, u_2 + Int32.ofInt 1 = y := ⟨_, rfl⟩
        refine k_iinc z_67 [(5, .int z_67), (3, .long y_66), (6, .int z_34), (0, .ref h0), (1, .int p0), (2, .int p1)] 2 X dX11_weightOf_97 rfl ez_67 (by decide) rfl ?_
        have i_68 : z_67.toInt = u_2.toInt + 1 := in_inc ez_67 (by decide) iv_13 (by decide) (by decide)
        have iv_69 : IV z_67 1 12 := iz1 i_68 iv_13 (by decide) (by decide)
        refine k_goto 5 X dX11_weightOf_100 (by decide) ?_
        refine k_lv [(5, .int z_67), (3, .long y_66), (0, .ref h0), (1, .int p0), (2, .int p1)] [0, 1, 3, 4, 5] rfl ?_
        exact ih_6 _ (by omega) y_66 z_67 rfl (iv_w iv_69 (by decide) (by decide))
    · skip
      refine k_goto 97 X dX11_weightOf_33 (by decide) ?_
      obtain ⟨z_70, ez_70⟩ : ∃ y : Int32, u_2 + Int32.ofInt 1 = y := ⟨_, rfl⟩
      refine k_iinc z_70 [(5, .int z_70), (3, .long u_1), (0, .ref h0), (1, .int p0), (2, .int p1)] 0 X dX11_weightOf_97 rfl ez_70 (by decide) rfl ?_
      have i_71 : z_70.toInt = u_2.toInt + 1 := in_inc ez_70 (by decide) iv_13 (by decide) (by decide)
      have iv_72 : IV z_70 1 12 := iz1 i_71 iv_13 (by decide) (by decide)
      refine k_goto 5 X dX11_weightOf_100 (by decide) ?_
      exact ih_6 _ (by omega) u_1 z_70 rfl (iv_w iv_72 (by decide) (by decide))

theorem dX11_allWeights_0 : decode cX11_allWeights 0 = .ok (.lconst 0, 1) := dk_9 rfl
theorem dX11_allWeights_1 : decode cX11_allWeights 1 = .ok (.lstore_n 2, 1) := dk_65 rfl
theorem dX11_allWeights_2 : decode cX11_allWeights 2 = .ok (.iconst 0, 1) := dk_3 rfl
theorem dX11_allWeights_3 : decode cX11_allWeights 3 = .ok (.istore 4, 2) := dk_54 rfl rfl rfl
theorem dX11_allWeights_5 : decode cX11_allWeights 5 = .ok (.iload 4, 2) := dk_21 rfl rfl rfl
theorem dX11_allWeights_7 : decode cX11_allWeights 7 = .ok (.aload_n 0, 1) := dk_42 rfl
theorem dX11_allWeights_8 : decode cX11_allWeights 8 = .ok (.getfield 26, 3) := dk_180 rfl rfl rfl rfl
theorem dX11_allWeights_11 : decode cX11_allWeights 11 = .ok (.iconst 0, 1) := dk_3 rfl
theorem dX11_allWeights_12 : decode cX11_allWeights 12 = .ok (.iload_n 1, 1) := dk_27 rfl
theorem dX11_allWeights_13 : decode cX11_allWeights 13 = .ok (.iadd, 1) := dk_96 rfl
theorem dX11_allWeights_14 : decode cX11_allWeights 14 = .ok (.iaload, 1) := dk_46 rfl
theorem dX11_allWeights_15 : decode cX11_allWeights 15 = .ok (.if_icmp .ge 33, 3) := dk_162 rfl rfl rfl (by decide)
theorem dX11_allWeights_18 : decode cX11_allWeights 18 = .ok (.lload_n 2, 1) := dk_32 rfl
theorem dX11_allWeights_19 : decode cX11_allWeights 19 = .ok (.aload_n 0, 1) := dk_42 rfl
theorem dX11_allWeights_20 : decode cX11_allWeights 20 = .ok (.iload_n 1, 1) := dk_27 rfl
theorem dX11_allWeights_21 : decode cX11_allWeights 21 = .ok (.iload 4, 2) := dk_21 rfl rfl rfl
theorem dX11_allWeights_23 : decode cX11_allWeights 23 = .ok (.invokevirtual 397, 3) := dk_182 rfl rfl rfl rfl
theorem dX11_allWeights_26 : decode cX11_allWeights 26 = .ok (.ifCond .eq 13, 3) := dk_153 rfl rfl rfl (by decide)
theorem dX11_allWeights_29 : decode cX11_allWeights 29 = .ok (.aload_n 0, 1) := dk_42 rfl
theorem dX11_allWeights_30 : decode cX11_allWeights 30 = .ok (.iload_n 1, 1) := dk_27 rfl
theorem dX11_allWeights_31 : decode cX11_allWeights 31 = .ok (.iload 4, 2) := dk_21 rfl rfl rfl
theorem dX11_allWeights_33 : decode cX11_allWeights 33 = .ok (.invokevirtual 400, 3) := dk_182 rfl rfl rfl rfl
theorem dX11_allWeights_36 : decode cX11_allWeights 36 = .ok (.goto 4, 3) := dk_167 rfl rfl rfl (by decide)
theorem dX11_allWeights_39 : decode cX11_allWeights 39 = .ok (.lconst 0, 1) := dk_9 rfl
theorem dX11_allWeights_40 : decode cX11_allWeights 40 = .ok (.ladd, 1) := dk_97 rfl
theorem dX11_allWeights_41 : decode cX11_allWeights 41 = .ok (.lstore_n 2, 1) := dk_65 rfl
theorem dX11_allWeights_42 : decode cX11_allWeights 42 = .ok (.iinc 4 1, 3) := dk_132 rfl rfl rfl rfl (by decide)
theorem dX11_allWeights_45 : decode cX11_allWeights 45 = .ok (.goto (-40), 3) := dk_167 rfl rfl rfl (by decide)
theorem dX11_allWeights_48 : decode cX11_allWeights 48 = .ok (.lload_n 2, 1) := dk_32 rfl
theorem dX11_allWeights_49 : decode cX11_allWeights 49 = .ok (.lreturn, 1) := dk_173 rfl
set_option maxHeartbeats 4000000 in
set_option maxRecDepth 100000 in
theorem m_allWeights (l : Launch) (g : Gx) (h0 : Nat) (p0 : Int32) (m_thrown : Int32) (a_tape : Nat) (m_taped : Int32) (m_size : Int32) (m_at : Int32) (m_end : Int32) (m_token : Int32) (m_whole : Int32) (m_nameSize : Int32) (m_fault : Int32) (m_place : Int32) (m_trouble : Int32) (a_letters : Nat) (m_failed : Int32) (m_hasHouse : Int32) (a_r : Nat) (a_fresh : Nat) (a_st : Nat) (a_undone : Nat) (a_kept : Nat) (m_undos : Int32) (m_images : Int32) (a_from : Nat) (a_begin : Nat) (a_motor : Nat) (a_change : Nat) (a_startFrame : Nat) (a_changeFrame : Nat) (a_lostAt : Nat) (a_blackAt : Nat) (a_slips : Nat) (a_leftArc : Nat) (a_died : Nat) (a_arcs : Nat) (m_bestSum : Int32) (m_nearest : Int32) (m_nearestTown : Int32) (a_there : Nat) (a_backAt : Nat) (a_sorted : Nat) (a_parts : Nat) (m_seed1 : Int32) (m_darkNow : Int32) (d_r : Nat → Int32) (d_st : Nat → Int32) (hv_p0 : IV p0 0 7) (hp_d_r : RInv d_r) : cL l g yX11_allWeights cX11_allWeights 5 (some .long) 2 48 0 0 [.ref h0, .int p0] [(cO11_i1r1i10r1i2r5i2r12i3r4i2 h0 m_thrown a_tape m_taped m_size m_at m_end m_token m_whole m_nameSize m_fault m_place m_trouble a_letters m_failed m_hasHouse a_r a_fresh a_st a_undone a_kept m_undos m_images a_from a_begin a_motor a_change a_startFrame a_changeFrame a_lostAt a_blackAt a_slips a_leftArc a_died a_arcs m_bestSum m_nearest m_nearestTown a_there a_backAt a_sorted a_parts m_seed1 m_darkNow), (cAI g a_r 311 d_r), (cAI g a_st 44 d_st)] (fun r w => w = [(cO11_i1r1i10r1i2r5i2r12i3r4i2 h0 m_thrown a_tape m_taped m_size m_at m_end m_token m_whole m_nameSize m_fault m_place m_trouble a_letters m_failed m_hasHouse a_r a_fresh a_st a_undone a_kept m_undos m_images a_from a_begin a_motor a_change a_startFrame a_changeFrame a_lostAt a_blackAt a_slips a_leftArc a_died a_arcs m_bestSum m_nearest m_nearestTown a_there a_backAt a_sorted a_parts m_seed1 m_darkNow), (cAI g a_r 311 d_r), (cAI g a_st 44 d_st)]) := by
  refine cL.of (by decide) (Nat.le_of_ble_eq_true rfl) ?_
  intro p e s m args below meth c A X hr hi
  refine k_lveq [(0, .ref h0), (1, .int p0)] rfl ?_
  refine k_lconst (v := 0) X dX11_allWeights_0 (by decide) ?_
  refine k_lstore_n [(2, .long 0), (0, .ref h0), (1, .int p0)] X dX11_allWeights_1 (by decide) rfl ?_
  refine k_iconst (v := 0) X dX11_allWeights_2 (by decide) ?_
  refine k_istore [(4, .int 0), (2, .long 0), (0, .ref h0), (1, .int p0)] X dX11_allWeights_3 (by decide) rfl ?_
  refine (fun hL : ∀ (nn_4 : Nat) (u_1 : Int64) (u_2 : Int32), (2147483647 - u_2.toInt).toNat = nn_4 → (IV u_2 0 2147483647) → Wk p l e _ s m args below meth c _ A g _ _ _ [(cO11_i1r1i10r1i2r5i2r12i3r4i2 h0 m_thrown a_tape m_taped m_size m_at m_end m_token m_whole m_nameSize m_fault m_place m_trouble a_letters m_failed m_hasHouse a_r a_fresh a_st a_undone a_kept m_undos m_images a_from a_begin a_motor a_change a_startFrame a_changeFrame a_lostAt a_blackAt a_slips a_leftArc a_died a_arcs m_bestSum m_nearest m_nearestTown a_there a_backAt a_sorted a_parts m_seed1 m_darkNow), (cAI g a_r 311 d_r), (cAI g a_st 44 d_st)] [(4, .int u_2), (2, .long u_1), (0, .ref h0), (1, .int p0)] 5 [] => hL _ 0 0 rfl (iv_w (show IV 0 0 0 from (by decide)) (by decide) (by decide))) ?_
  refine fun nn_4 => Nat.strongRecOn nn_4 (fun nn_4 ih_6 => ?_)
  intro u_1 u_2 hm_5 hv_3
  refine k_iload X dX11_allWeights_5 0 rfl ?_
  refine k_aload_n X dX11_allWeights_7 2 rfl ?_
  refine k_get (ci := 11) X inlX11 rfl 17 (by decide) dX11_allWeights_8 mw172 0 rfl rfl ?_
  refine k_iconst (v := 0) X dX11_allWeights_11 (by decide) ?_
  refine k_iload_n X dX11_allWeights_12 3 rfl ?_
  refine k_iadd X dX11_allWeights_13 ?_
  refine k_nm (fun z_7 ez_7 => ?_)
  have i_8 : z_7.toInt = 0 + p0.toInt := in_add ez_7 (show IV 0 0 0 from (by decide)) hv_p0 (by decide) (by decide)
  have iv_9 : IV z_7 0 7 := iz2 i_8 hv_p0 (by decide) (by decide)
  refine k_iald X dX11_allWeights_14 2 rfl (iv_in iv_9 (by decide) (by decide)) ?_
  refine k_nm (fun z_10 ez_10 => ?_)
  refine k_ic_ge 48 X dX11_allWeights_15 (by decide) (fun h_11 => ?_) (fun h_11 => ?_)
  · skip
    have j_12 : z_10.toInt ≤ u_2.toInt := iv_le h_11
    refine k_lload_n X dX11_allWeights_48 1 rfl ?_
    exact k_lret X hr dX11_allWeights_49 (Nat.le_of_ble_eq_true rfl) (Nat.le_of_ble_eq_true rfl) [0, 1, 2] (by decide) rfl rfl rfl
  · skip
    have j_13 : u_2.toInt < z_10.toInt := iv_nle h_11
    have iv_14 : IV u_2 0 2147483646 := iv_ltL (iv_nle h_11) hv_3 (iv_any z_10) (by decide)
    have iv_15 : IV z_10 1 2147483647 := iv_ltR (iv_nle h_11) hv_3 (iv_any z_10) (by decide)
    refine k_lload_n X dX11_allWeights_18 1 rfl ?_
    refine k_aload_n X dX11_allWeights_19 2 rfl ?_
    refine k_iload_n X dX11_allWeights_20 3 rfl ?_
    refine k_iload X dX11_allWeights_21 0 rfl ?_
    refine k_callVI (n := 2) (As := [.int p0, .int u_2]) (st := [.long u_1]) X [(cO11_i1r1i10r1i2r5i2r12i3r4i2 h0 m_thrown a_tape m_taped m_size m_at m_end m_token m_whole m_nameSize m_fault m_place m_trouble a_letters m_failed m_hasHouse a_r a_fresh a_st a_undone a_kept m_undos m_images a_from a_begin a_motor a_change a_startFrame a_changeFrame a_lostAt a_blackAt a_slips a_leftArc a_died a_arcs m_bestSum m_nearest m_nearestTown a_there a_backAt a_sorted a_parts m_seed1 m_darkNow), (cAI g a_r 311 d_r), (cAI g a_st 44 d_st)] [] [0, 1, 2] [] (m_isDot l g h0 p0 u_2 m_thrown a_tape m_taped m_size m_at m_end m_token m_whole m_nameSize m_fault m_place m_trouble a_letters m_failed m_hasHouse a_r a_fresh a_st a_undone a_kept m_undos m_images a_from a_begin a_motor a_change a_startFrame a_changeFrame a_lostAt a_blackAt a_slips a_leftArc a_died a_arcs m_bestSum m_nearest m_nearestTown a_there a_backAt a_sorted a_parts m_seed1 m_darkNow d_r d_st (iv_w hv_p0 (by decide) (by decide)) hp_d_r) dX11_allWeights_23 mw1155 mw1156 mw1157 mw5 mw1158 rfl 11 rfl rfl 0 _ rfl yk_yX11_isDot_2 rfl (Nat.le_of_ble_eq_true rfl) (Nat.le_of_ble_eq_true rfl) (Nat.le_of_ble_eq_true rfl) (Nat.le_of_ble_eq_true rfl) (Nat.le_of_ble_eq_true rfl) rfl rfl (by decide) rfl (by decide) (by decide) ?_
    rintro r_16 w ⟨iv_17, rfl⟩
    refine k_ws [(cO11_i1r1i10r1i2r5i2r12i3r4i2 h0 m_thrown a_tape m_taped m_size m_at m_end m_token m_whole m_nameSize m_fault m_place m_trouble a_letters m_failed m_hasHouse a_r a_fresh a_st a_undone a_kept m_undos m_images a_from a_begin a_motor a_change a_startFrame a_changeFrame a_lostAt a_blackAt a_slips a_leftArc a_died a_arcs m_bestSum m_nearest m_nearestTown a_there a_backAt a_sorted a_parts m_seed1 m_darkNow), (cAI g a_r 311 d_r), (cAI g a_st 44 d_st)] rfl ?_
    refine k_if_eq 39 X dX11_allWeights_26 (by decide) (fun h_18 => ?_) (fun h_18 => ?_)
    · skip
      have iv_19 : IV r_16 0 0 := iv_meet iv_17 (iv_e h_18 (show IV 0 0 0 from (by decide))) (by decide) (by decide)
      refine k_lconst (v := 0) X dX11_allWeights_39 (by decide) ?_
      refine k_ladd X dX11_allWeights_40 ?_
      refine k_nmL (fun y_20 ey_20 => ?_)
      refine k_lstore_n [(2, .long y_20), (4, .int u_2), (0, .ref h0), (1, .int p0)] X dX11_allWeights_41 (by decide) rfl ?_
      obtain ⟨z_21, ez_21⟩ : ∃ y : Int32, u_2 + Int32.ofInt 1 = y := ⟨_, rfl⟩
      refine k_iinc z_21 [(4, .int z_21), (2, .long y_20), (0, .ref h0), (1, .int p0)] 1 X dX11_allWeights_42 rfl ez_21 (by decide) rfl ?_
      have i_22 : z_21.toInt = u_2.toInt + 1 := in_inc ez_21 (by decide) iv_14 (by decide) (by decide)
      have iv_23 : IV z_21 1 2147483647 := iz1 i_22 iv_14 (by decide) (by decide)
      refine k_goto 5 X dX11_allWeights_45 (by decide) ?_
      exact ih_6 _ (by omega) y_20 z_21 rfl (iv_w iv_23 (by decide) (by decide))
    · skip
      have iv_24 : IV r_16 1 1 := iv_neL h_18 iv_17 (show IV 0 0 0 from (by decide)) (by decide)
      refine k_aload_n X dX11_allWeights_29 2 rfl ?_
      refine k_iload_n X dX11_allWeights_30 3 rfl ?_
      refine k_iload X dX11_allWeights_31 0 rfl ?_
      refine k_callVL (n := 2) (As := [.int p0, .int u_2]) (st := [.long u_1]) X [(cO11_i1r1i10r1i2r5i2r12i3r4i2 h0 m_thrown a_tape m_taped m_size m_at m_end m_token m_whole m_nameSize m_fault m_place m_trouble a_letters m_failed m_hasHouse a_r a_fresh a_st a_undone a_kept m_undos m_images a_from a_begin a_motor a_change a_startFrame a_changeFrame a_lostAt a_blackAt a_slips a_leftArc a_died a_arcs m_bestSum m_nearest m_nearestTown a_there a_backAt a_sorted a_parts m_seed1 m_darkNow), (cAI g a_r 311 d_r), (cAI g a_st 44 d_st)] [] [0, 1, 2] [] (m_weightOf l g h0 p0 u_2 m_thrown a_tape m_taped m_size m_at m_end m_token m_whole m_nameSize m_fault m_place m_trouble a_letters m_failed m_hasHouse a_r a_fresh a_st a_undone a_kept m_undos m_images a_from a_begin a_motor a_change a_startFrame a_changeFrame a_lostAt a_blackAt a_slips a_leftArc a_died a_arcs m_bestSum m_nearest m_nearestTown a_there a_backAt a_sorted a_parts m_seed1 m_darkNow d_r d_st (iv_w hv_p0 (by decide) (by decide)) hp_d_r) dX11_allWeights_33 mw1159 mw1160 mw1161 mw5 mw1162 rfl 11 rfl rfl 0 _ rfl yk_yX11_weightOf_2 rfl (Nat.le_of_ble_eq_true rfl) (Nat.le_of_ble_eq_true rfl) (Nat.le_of_ble_eq_true rfl) (Nat.le_of_ble_eq_true rfl) (Nat.le_of_ble_eq_true rfl) rfl rfl (by decide) rfl (by decide) (by decide) ?_
      rintro r_25 w rfl
      refine k_ws [(cO11_i1r1i10r1i2r5i2r12i3r4i2 h0 m_thrown a_tape m_taped m_size m_at m_end m_token m_whole m_nameSize m_fault m_place m_trouble a_letters m_failed m_hasHouse a_r a_fresh a_st a_undone a_kept m_undos m_images a_from a_begin a_motor a_change a_startFrame a_changeFrame a_lostAt a_blackAt a_slips a_leftArc a_died a_arcs m_bestSum m_nearest m_nearestTown a_there a_backAt a_sorted a_parts m_seed1 m_darkNow), (cAI g a_r 311 d_r), (cAI g a_st 44 d_st)] rfl ?_
      refine k_goto 40 X dX11_allWeights_36 (by decide) ?_
      refine k_ladd X dX11_allWeights_40 ?_
      refine k_nmL (fun y_26 ey_26 => ?_)
      refine k_lstore_n [(2, .long y_26), (4, .int u_2), (0, .ref h0), (1, .int p0)] X dX11_allWeights_41 (by decide) rfl ?_
      obtain ⟨z_27, ez_27⟩ : ∃ y : Int32, u_2 + Int32.ofInt 1 = y := ⟨_, rfl⟩
      refine k_iinc z_27 [(4, .int z_27), (2, .long y_26), (0, .ref h0), (1, .int p0)] 1 X dX11_allWeights_42 rfl ez_27 (by decide) rfl ?_
      have i_28 : z_27.toInt = u_2.toInt + 1 := in_inc ez_27 (by decide) iv_14 (by decide) (by decide)
      have iv_29 : IV z_27 1 2147483647 := iz1 i_28 iv_14 (by decide) (by decide)
      refine k_goto 5 X dX11_allWeights_45 (by decide) ?_
      exact ih_6 _ (by omega) y_26 z_27 rfl (iv_w iv_29 (by decide) (by decide))

theorem dX11_likeliest_0 : decode cX11_likeliest 0 = .ok (.aload_n 0, 1) := dk_42 rfl
theorem dX11_likeliest_1 : decode cX11_likeliest 1 = .ok (.invokevirtual 200, 3) := dk_182 rfl rfl rfl rfl
theorem dX11_likeliest_4 : decode cX11_likeliest 4 = .ok (.aload_n 0, 1) := dk_42 rfl
theorem dX11_likeliest_5 : decode cX11_likeliest 5 = .ok (.iload_n 1, 1) := dk_27 rfl
theorem dX11_likeliest_6 : decode cX11_likeliest 6 = .ok (.invokevirtual 327, 3) := dk_182 rfl rfl rfl rfl
theorem dX11_likeliest_9 : decode cX11_likeliest 9 = .ok (.ifCond .ne 9, 3) := dk_154 rfl rfl rfl (by decide)
theorem dX11_likeliest_12 : decode cX11_likeliest 12 = .ok (.aload_n 0, 1) := dk_42 rfl
theorem dX11_likeliest_13 : decode cX11_likeliest 13 = .ok (.iconst 1, 1) := dk_4 rfl
theorem dX11_likeliest_14 : decode cX11_likeliest 14 = .ok (.invokevirtual 203, 3) := dk_182 rfl rfl rfl rfl
theorem dX11_likeliest_17 : decode cX11_likeliest 17 = .ok (.ireturn, 1) := dk_172 rfl
theorem dX11_likeliest_18 : decode cX11_likeliest 18 = .ok (.iconst (-1), 1) := dk_2 rfl
theorem dX11_likeliest_19 : decode cX11_likeliest 19 = .ok (.istore_n 2, 1) := dk_61 rfl
theorem dX11_likeliest_20 : decode cX11_likeliest 20 = .ok (.iconst 0, 1) := dk_3 rfl
theorem dX11_likeliest_21 : decode cX11_likeliest 21 = .ok (.istore_n 3, 1) := dk_62 rfl
theorem dX11_likeliest_22 : decode cX11_likeliest 22 = .ok (.iload_n 3, 1) := dk_29 rfl
theorem dX11_likeliest_23 : decode cX11_likeliest 23 = .ok (.aload_n 0, 1) := dk_42 rfl
theorem dX11_likeliest_24 : decode cX11_likeliest 24 = .ok (.getfield 26, 3) := dk_180 rfl rfl rfl rfl
theorem dX11_likeliest_27 : decode cX11_likeliest 27 = .ok (.iconst 0, 1) := dk_3 rfl
theorem dX11_likeliest_28 : decode cX11_likeliest 28 = .ok (.iload_n 1, 1) := dk_27 rfl
theorem dX11_likeliest_29 : decode cX11_likeliest 29 = .ok (.iadd, 1) := dk_96 rfl
theorem dX11_likeliest_30 : decode cX11_likeliest 30 = .ok (.iaload, 1) := dk_46 rfl
theorem dX11_likeliest_31 : decode cX11_likeliest 31 = .ok (.if_icmp .ge 40, 3) := dk_162 rfl rfl rfl (by decide)
theorem dX11_likeliest_34 : decode cX11_likeliest 34 = .ok (.aload_n 0, 1) := dk_42 rfl
theorem dX11_likeliest_35 : decode cX11_likeliest 35 = .ok (.iload_n 1, 1) := dk_27 rfl
theorem dX11_likeliest_36 : decode cX11_likeliest 36 = .ok (.iload_n 3, 1) := dk_29 rfl
theorem dX11_likeliest_37 : decode cX11_likeliest 37 = .ok (.invokevirtual 397, 3) := dk_182 rfl rfl rfl rfl
theorem dX11_likeliest_40 : decode cX11_likeliest 40 = .ok (.ifCond .eq 25, 3) := dk_153 rfl rfl rfl (by decide)
theorem dX11_likeliest_43 : decode cX11_likeliest 43 = .ok (.iload_n 2, 1) := dk_28 rfl
theorem dX11_likeliest_44 : decode cX11_likeliest 44 = .ok (.ifCond .lt 19, 3) := dk_155 rfl rfl rfl (by decide)
theorem dX11_likeliest_47 : decode cX11_likeliest 47 = .ok (.aload_n 0, 1) := dk_42 rfl
theorem dX11_likeliest_48 : decode cX11_likeliest 48 = .ok (.iload_n 1, 1) := dk_27 rfl
theorem dX11_likeliest_49 : decode cX11_likeliest 49 = .ok (.iload_n 3, 1) := dk_29 rfl
theorem dX11_likeliest_50 : decode cX11_likeliest 50 = .ok (.invokevirtual 400, 3) := dk_182 rfl rfl rfl rfl
theorem dX11_likeliest_53 : decode cX11_likeliest 53 = .ok (.aload_n 0, 1) := dk_42 rfl
theorem dX11_likeliest_54 : decode cX11_likeliest 54 = .ok (.iload_n 1, 1) := dk_27 rfl
theorem dX11_likeliest_55 : decode cX11_likeliest 55 = .ok (.iload_n 2, 1) := dk_28 rfl
theorem dX11_likeliest_56 : decode cX11_likeliest 56 = .ok (.invokevirtual 400, 3) := dk_182 rfl rfl rfl rfl
theorem dX11_likeliest_59 : decode cX11_likeliest 59 = .ok (.lcmp, 1) := dk_148 rfl
theorem dX11_likeliest_60 : decode cX11_likeliest 60 = .ok (.ifCond .le 5, 3) := dk_158 rfl rfl rfl (by decide)
theorem dX11_likeliest_63 : decode cX11_likeliest 63 = .ok (.iload_n 3, 1) := dk_29 rfl
theorem dX11_likeliest_64 : decode cX11_likeliest 64 = .ok (.istore_n 2, 1) := dk_61 rfl
theorem dX11_likeliest_65 : decode cX11_likeliest 65 = .ok (.iinc 3 1, 3) := dk_132 rfl rfl rfl rfl (by decide)
theorem dX11_likeliest_68 : decode cX11_likeliest 68 = .ok (.goto (-46), 3) := dk_167 rfl rfl rfl (by decide)
theorem dX11_likeliest_71 : decode cX11_likeliest 71 = .ok (.iload_n 2, 1) := dk_28 rfl
theorem dX11_likeliest_72 : decode cX11_likeliest 72 = .ok (.ireturn, 1) := dk_172 rfl
set_option maxHeartbeats 4000000 in
set_option maxRecDepth 100000 in
theorem m_likeliest (l : Launch) (g : Gx) (h0 : Nat) (p0 : Int32) (m_thrown : Int32) (a_tape : Nat) (m_taped : Int32) (m_size : Int32) (m_at : Int32) (m_end : Int32) (m_token : Int32) (m_whole : Int32) (m_nameSize : Int32) (m_fault : Int32) (m_place : Int32) (m_trouble : Int32) (a_letters : Nat) (m_failed : Int32) (m_hasHouse : Int32) (a_r : Nat) (a_fresh : Nat) (a_st : Nat) (a_undone : Nat) (a_kept : Nat) (m_undos : Int32) (m_images : Int32) (a_from : Nat) (a_begin : Nat) (a_motor : Nat) (a_change : Nat) (a_startFrame : Nat) (a_changeFrame : Nat) (a_lostAt : Nat) (a_blackAt : Nat) (a_slips : Nat) (a_leftArc : Nat) (a_died : Nat) (a_arcs : Nat) (m_bestSum : Int32) (m_nearest : Int32) (m_nearestTown : Int32) (a_there : Nat) (a_backAt : Nat) (a_sorted : Nat) (a_parts : Nat) (m_seed1 : Int32) (m_darkNow : Int32) (d_r : Nat → Int32) (d_st : Nat → Int32) (hv_m_hasHouse : IV m_hasHouse 0 1) (hp_d_r : RInv d_r) : cI l g yX11_likeliest cX11_likeliest 4 (some .int) 2 48 0 0 [.ref h0, .int p0] [(cO11_i1r1i10r1i2r5i2r12i3r4i2 h0 m_thrown a_tape m_taped m_size m_at m_end m_token m_whole m_nameSize m_fault m_place m_trouble a_letters m_failed m_hasHouse a_r a_fresh a_st a_undone a_kept m_undos m_images a_from a_begin a_motor a_change a_startFrame a_changeFrame a_lostAt a_blackAt a_slips a_leftArc a_died a_arcs m_bestSum m_nearest m_nearestTown a_there a_backAt a_sorted a_parts m_seed1 m_darkNow), (cAI g a_r 311 d_r), (cAI g a_st 44 d_st)] (fun r w => ∃ (m_thrown2 : Int32) (m_trouble2 : Int32), w = [(cO11_i1r1i10r1i2r5i2r12i3r4i2 h0 m_thrown2 a_tape m_taped m_size m_at m_end m_token m_whole m_nameSize m_fault m_place m_trouble2 a_letters m_failed m_hasHouse a_r a_fresh a_st a_undone a_kept m_undos m_images a_from a_begin a_motor a_change a_startFrame a_changeFrame a_lostAt a_blackAt a_slips a_leftArc a_died a_arcs m_bestSum m_nearest m_nearestTown a_there a_backAt a_sorted a_parts m_seed1 m_darkNow), (cAI g a_r 311 d_r), (cAI g a_st 44 d_st)]) := by
  refine cI.of (by decide) (Nat.le_of_ble_eq_true rfl) ?_
  intro p e s m args below meth c A X hr hi
  refine k_lveq [(0, .ref h0), (1, .int p0)] rfl ?_
  refine k_aload_n X dX11_likeliest_0 0 rfl ?_
  refine k_callVV (n := 0) (As := []) (st := []) X [(cO11_i1r1i10r1i2r5i2r12i3r4i2 h0 m_thrown a_tape m_taped m_size m_at m_end m_token m_whole m_nameSize m_fault m_place m_trouble a_letters m_failed m_hasHouse a_r a_fresh a_st a_undone a_kept m_undos m_images a_from a_begin a_motor a_change a_startFrame a_changeFrame a_lostAt a_blackAt a_slips a_leftArc a_died a_arcs m_bestSum m_nearest m_nearestTown a_there a_backAt a_sorted a_parts m_seed1 m_darkNow)] [(cAI g a_r 311 d_r), (cAI g a_st 44 d_st)] [0] [1, 2] (m_good l g h0 m_thrown a_tape m_taped m_size m_at m_end m_token m_whole m_nameSize m_fault m_place m_trouble a_letters m_failed m_hasHouse a_r a_fresh a_st a_undone a_kept m_undos m_images a_from a_begin a_motor a_change a_startFrame a_changeFrame a_lostAt a_blackAt a_slips a_leftArc a_died a_arcs m_bestSum m_nearest m_nearestTown a_there a_backAt a_sorted a_parts m_seed1 m_darkNow) dX11_likeliest_1 mw477 mw478 mw479 mw5 mw480 rfl 11 rfl rfl 0 _ rfl yk_yX11_good_0 rfl (Nat.le_of_ble_eq_true rfl) (Nat.le_of_ble_eq_true rfl) (Nat.le_of_ble_eq_true rfl) (Nat.le_of_ble_eq_true rfl) (Nat.le_of_ble_eq_true rfl) rfl rfl (by decide) rfl (by decide) (by decide) ?_
  rintro w ⟨m_thrown2_1, m_trouble2_2, rfl⟩
  refine k_ws [(cAI g a_r 311 d_r), (cAI g a_st 44 d_st), (cO11_i1r1i10r1i2r5i2r12i3r4i2 h0 m_thrown2_1 a_tape m_taped m_size m_at m_end m_token m_whole m_nameSize m_fault m_place m_trouble2_2 a_letters m_failed m_hasHouse a_r a_fresh a_st a_undone a_kept m_undos m_images a_from a_begin a_motor a_change a_startFrame a_changeFrame a_lostAt a_blackAt a_slips a_leftArc a_died a_arcs m_bestSum m_nearest m_nearestTown a_there a_backAt a_sorted a_parts m_seed1 m_darkNow)] rfl ?_
  refine k_aload_n X dX11_likeliest_4 0 rfl ?_
  refine k_iload_n X dX11_likeliest_5 1 rfl ?_
  refine k_callVI (n := 1) (As := [.int p0]) (st := []) X [(cO11_i1r1i10r1i2r5i2r12i3r4i2 h0 m_thrown2_1 a_tape m_taped m_size m_at m_end m_token m_whole m_nameSize m_fault m_place m_trouble2_2 a_letters m_failed m_hasHouse a_r a_fresh a_st a_undone a_kept m_undos m_images a_from a_begin a_motor a_change a_startFrame a_changeFrame a_lostAt a_blackAt a_slips a_leftArc a_died a_arcs m_bestSum m_nearest m_nearestTown a_there a_backAt a_sorted a_parts m_seed1 m_darkNow), (cAI g a_r 311 d_r)] [(cAI g a_st 44 d_st)] [2, 0] [1] (m_isReel l g h0 p0 m_thrown2_1 a_tape m_taped m_size m_at m_end m_token m_whole m_nameSize m_fault m_place m_trouble2_2 a_letters m_failed m_hasHouse a_r a_fresh a_st a_undone a_kept m_undos m_images a_from a_begin a_motor a_change a_startFrame a_changeFrame a_lostAt a_blackAt a_slips a_leftArc a_died a_arcs m_bestSum m_nearest m_nearestTown a_there a_backAt a_sorted a_parts m_seed1 m_darkNow d_r (iv_w hv_m_hasHouse (by decide) (by decide)) hp_d_r) dX11_likeliest_6 mw670 mw671 mw672 mw5 mw673 rfl 11 rfl rfl 0 _ rfl yk_yX11_isReel_1 rfl (Nat.le_of_ble_eq_true rfl) (Nat.le_of_ble_eq_true rfl) (Nat.le_of_ble_eq_true rfl) (Nat.le_of_ble_eq_true rfl) (Nat.le_of_ble_eq_true rfl) rfl rfl (by decide) rfl (by decide) (by decide) ?_
  rintro r_4 w ⟨iv_5, hk_6, rfl⟩
  refine k_ws [(cAI g a_st 44 d_st), (cO11_i1r1i10r1i2r5i2r12i3r4i2 h0 m_thrown2_1 a_tape m_taped m_size m_at m_end m_token m_whole m_nameSize m_fault m_place m_trouble2_2 a_letters m_failed m_hasHouse a_r a_fresh a_st a_undone a_kept m_undos m_images a_from a_begin a_motor a_change a_startFrame a_changeFrame a_lostAt a_blackAt a_slips a_leftArc a_died a_arcs m_bestSum m_nearest m_nearestTown a_there a_backAt a_sorted a_parts m_seed1 m_darkNow), (cAI g a_r 311 d_r)] rfl ?_
  refine k_if_ne 18 X dX11_likeliest_9 (by decide) (fun h_7 => ?_) (fun h_7 => ?_)
  · skip
    have hc_8 := hk_6.resolve_left h_7
    have iv_9 : IV p0 0 7 := iv_meet (iv_any p0) hc_8 (by decide) (by decide)
    have iv_10 : IV r_4 1 1 := iv_neL h_7 iv_5 (show IV 0 0 0 from (by decide)) (by decide)
    refine k_iconst (v := -1) X dX11_likeliest_18 (by decide) ?_
    refine k_istore_n [(2, .int (-1)), (0, .ref h0), (1, .int p0)] X dX11_likeliest_19 (by decide) rfl ?_
    refine k_iconst (v := 0) X dX11_likeliest_20 (by decide) ?_
    refine k_istore_n [(3, .int 0), (2, .int (-1)), (0, .ref h0), (1, .int p0)] X dX11_likeliest_21 (by decide) rfl ?_
    refine (fun hL : ∀ (nn_15 : Nat) (u_11 : Int32) (u_13 : Int32), (2147483647 - u_13.toInt).toNat = nn_15 → (IV u_11 (-1) 2147483647) → (IV u_13 0 2147483647) → Wk p l e _ s m args below meth c _ A g _ _ _ [(cAI g a_st 44 d_st), (cO11_i1r1i10r1i2r5i2r12i3r4i2 h0 m_thrown2_1 a_tape m_taped m_size m_at m_end m_token m_whole m_nameSize m_fault m_place m_trouble2_2 a_letters m_failed m_hasHouse a_r a_fresh a_st a_undone a_kept m_undos m_images a_from a_begin a_motor a_change a_startFrame a_changeFrame a_lostAt a_blackAt a_slips a_leftArc a_died a_arcs m_bestSum m_nearest m_nearestTown a_there a_backAt a_sorted a_parts m_seed1 m_darkNow), (cAI g a_r 311 d_r)] [(3, .int u_13), (2, .int u_11), (0, .ref h0), (1, .int p0)] 22 [] => hL _ ((-1)) 0 rfl (iv_w (show IV (-1) (-1) (-1) from (by decide)) (by decide) (by decide)) (iv_w (show IV 0 0 0 from (by decide)) (by decide) (by decide))) ?_
    refine fun nn_15 => Nat.strongRecOn nn_15 (fun nn_15 ih_17 => ?_)
    intro u_11 u_13 hm_16 hv_12 hv_14
    refine k_iload_n X dX11_likeliest_22 0 rfl ?_
    refine k_aload_n X dX11_likeliest_23 2 rfl ?_
    refine k_get (ci := 11) X inlX11 rfl 17 (by decide) dX11_likeliest_24 mw172 1 rfl rfl ?_
    refine k_iconst (v := 0) X dX11_likeliest_27 (by decide) ?_
    refine k_iload_n X dX11_likeliest_28 3 rfl ?_
    refine k_iadd X dX11_likeliest_29 ?_
    refine k_nm (fun z_18 ez_18 => ?_)
    have i_19 : z_18.toInt = 0 + p0.toInt := in_add ez_18 (show IV 0 0 0 from (by decide)) iv_9 (by decide) (by decide)
    have iv_20 : IV z_18 0 7 := iz2 i_19 iv_9 (by decide) (by decide)
    refine k_iald X dX11_likeliest_30 0 rfl (iv_in iv_20 (by decide) (by decide)) ?_
    refine k_nm (fun z_21 ez_21 => ?_)
    refine k_ic_ge 71 X dX11_likeliest_31 (by decide) (fun h_22 => ?_) (fun h_22 => ?_)
    · skip
      have j_23 : z_21.toInt ≤ u_13.toInt := iv_le h_22
      refine k_iload_n X dX11_likeliest_71 1 rfl ?_
      exact k_iret X hr dX11_likeliest_72 (Nat.le_of_ble_eq_true rfl) (Nat.le_of_ble_eq_true rfl) [1, 2, 0] (by decide) rfl rfl ⟨m_thrown2_1, m_trouble2_2, rfl⟩
    · skip
      have j_24 : u_13.toInt < z_21.toInt := iv_nle h_22
      have iv_25 : IV u_13 0 2147483646 := iv_ltL (iv_nle h_22) hv_14 (iv_any z_21) (by decide)
      have iv_26 : IV z_21 1 2147483647 := iv_ltR (iv_nle h_22) hv_14 (iv_any z_21) (by decide)
      refine k_aload_n X dX11_likeliest_34 2 rfl ?_
      refine k_iload_n X dX11_likeliest_35 3 rfl ?_
      refine k_iload_n X dX11_likeliest_36 0 rfl ?_
      refine k_callVI (n := 2) (As := [.int p0, .int u_13]) (st := []) X [(cO11_i1r1i10r1i2r5i2r12i3r4i2 h0 m_thrown2_1 a_tape m_taped m_size m_at m_end m_token m_whole m_nameSize m_fault m_place m_trouble2_2 a_letters m_failed m_hasHouse a_r a_fresh a_st a_undone a_kept m_undos m_images a_from a_begin a_motor a_change a_startFrame a_changeFrame a_lostAt a_blackAt a_slips a_leftArc a_died a_arcs m_bestSum m_nearest m_nearestTown a_there a_backAt a_sorted a_parts m_seed1 m_darkNow), (cAI g a_r 311 d_r), (cAI g a_st 44 d_st)] [] [1, 2, 0] [] (m_isDot l g h0 p0 u_13 m_thrown2_1 a_tape m_taped m_size m_at m_end m_token m_whole m_nameSize m_fault m_place m_trouble2_2 a_letters m_failed m_hasHouse a_r a_fresh a_st a_undone a_kept m_undos m_images a_from a_begin a_motor a_change a_startFrame a_changeFrame a_lostAt a_blackAt a_slips a_leftArc a_died a_arcs m_bestSum m_nearest m_nearestTown a_there a_backAt a_sorted a_parts m_seed1 m_darkNow d_r d_st (iv_w iv_9 (by decide) (by decide)) hp_d_r) dX11_likeliest_37 mw1155 mw1156 mw1157 mw5 mw1158 rfl 11 rfl rfl 0 _ rfl yk_yX11_isDot_2 rfl (Nat.le_of_ble_eq_true rfl) (Nat.le_of_ble_eq_true rfl) (Nat.le_of_ble_eq_true rfl) (Nat.le_of_ble_eq_true rfl) (Nat.le_of_ble_eq_true rfl) rfl rfl (by decide) rfl (by decide) (by decide) ?_
      rintro r_27 w ⟨iv_28, rfl⟩
      refine k_ws [(cO11_i1r1i10r1i2r5i2r12i3r4i2 h0 m_thrown2_1 a_tape m_taped m_size m_at m_end m_token m_whole m_nameSize m_fault m_place m_trouble2_2 a_letters m_failed m_hasHouse a_r a_fresh a_st a_undone a_kept m_undos m_images a_from a_begin a_motor a_change a_startFrame a_changeFrame a_lostAt a_blackAt a_slips a_leftArc a_died a_arcs m_bestSum m_nearest m_nearestTown a_there a_backAt a_sorted a_parts m_seed1 m_darkNow), (cAI g a_r 311 d_r), (cAI g a_st 44 d_st)] rfl ?_
      refine k_if_eq 65 X dX11_likeliest_40 (by decide) (fun h_29 => ?_) (fun h_29 => ?_)
      · skip
        have iv_30 : IV r_27 0 0 := iv_meet iv_28 (iv_e h_29 (show IV 0 0 0 from (by decide))) (by decide) (by decide)
        obtain ⟨z_31, ez_31⟩ : ∃ y : Int32, u_13 + Int32.ofInt 1 = y := ⟨_, rfl⟩
        refine k_iinc z_31 [(3, .int z_31), (2, .int u_11), (0, .ref h0), (1, .int p0)] 0 X dX11_likeliest_65 rfl ez_31 (by decide) rfl ?_
        have i_32 : z_31.toInt = u_13.toInt + 1 := in_inc ez_31 (by decide) iv_25 (by decide) (by decide)
        have iv_33 : IV z_31 1 2147483647 := iz1 i_32 iv_25 (by decide) (by decide)
        refine k_goto 22 X dX11_likeliest_68 (by decide) ?_
        refine k_sub [(cAI g a_st 44 d_st), (cO11_i1r1i10r1i2r5i2r12i3r4i2 h0 m_thrown2_1 a_tape m_taped m_size m_at m_end m_token m_whole m_nameSize m_fault m_place m_trouble2_2 a_letters m_failed m_hasHouse a_r a_fresh a_st a_undone a_kept m_undos m_images a_from a_begin a_motor a_change a_startFrame a_changeFrame a_lostAt a_blackAt a_slips a_leftArc a_died a_arcs m_bestSum m_nearest m_nearestTown a_there a_backAt a_sorted a_parts m_seed1 m_darkNow), (cAI g a_r 311 d_r)] [2, 0, 1] rfl (by decide) rfl ?_
        exact ih_17 _ (by omega) u_11 z_31 rfl (iv_w hv_12 (by decide) (by decide)) (iv_w iv_33 (by decide) (by decide))
      · skip
        have iv_34 : IV r_27 1 1 := iv_neL h_29 iv_28 (show IV 0 0 0 from (by decide)) (by decide)
        refine k_iload_n X dX11_likeliest_43 1 rfl ?_
        refine k_if_lt 63 X dX11_likeliest_44 (by decide) (fun h_35 => ?_) (fun h_35 => ?_)
        · skip
          have j_36 : u_11.toInt < 0 := iv_lt h_35
          have iv_37 : IV u_11 (-1) (-1) := iv_ltL (iv_lt h_35) hv_12 (show IV 0 0 0 from (by decide)) (by decide)
          refine k_iload_n X dX11_likeliest_63 0 rfl ?_
          refine k_istore_n [(2, .int u_13), (3, .int u_13), (0, .ref h0), (1, .int p0)] X dX11_likeliest_64 (by decide) rfl ?_
          obtain ⟨z_38, ez_38⟩ : ∃ y : Int32, u_13 + Int32.ofInt 1 = y := ⟨_, rfl⟩
          refine k_iinc z_38 [(3, .int z_38), (2, .int u_13), (0, .ref h0), (1, .int p0)] 1 X dX11_likeliest_65 rfl ez_38 (by decide) rfl ?_
          have i_39 : z_38.toInt = u_13.toInt + 1 := in_inc ez_38 (by decide) iv_25 (by decide) (by decide)
          have iv_40 : IV z_38 1 2147483647 := iz1 i_39 iv_25 (by decide) (by decide)
          refine k_goto 22 X dX11_likeliest_68 (by decide) ?_
          refine k_sub [(cAI g a_st 44 d_st), (cO11_i1r1i10r1i2r5i2r12i3r4i2 h0 m_thrown2_1 a_tape m_taped m_size m_at m_end m_token m_whole m_nameSize m_fault m_place m_trouble2_2 a_letters m_failed m_hasHouse a_r a_fresh a_st a_undone a_kept m_undos m_images a_from a_begin a_motor a_change a_startFrame a_changeFrame a_lostAt a_blackAt a_slips a_leftArc a_died a_arcs m_bestSum m_nearest m_nearestTown a_there a_backAt a_sorted a_parts m_seed1 m_darkNow), (cAI g a_r 311 d_r)] [2, 0, 1] rfl (by decide) rfl ?_
          exact ih_17 _ (by omega) u_13 z_38 rfl (iv_w iv_25 (by decide) (by decide)) (iv_w iv_40 (by decide) (by decide))
        · skip
          have j_41 : 0 ≤ u_11.toInt := iv_nlt h_35
          have iv_42 : IV u_11 0 2147483647 := iv_leR (iv_nlt h_35) (show IV 0 0 0 from (by decide)) hv_12 (by decide)
          refine k_aload_n X dX11_likeliest_47 2 rfl ?_
          refine k_iload_n X dX11_likeliest_48 3 rfl ?_
          refine k_iload_n X dX11_likeliest_49 0 rfl ?_
          refine k_callVL (n := 2) (As := [.int p0, .int u_13]) (st := []) X [(cO11_i1r1i10r1i2r5i2r12i3r4i2 h0 m_thrown2_1 a_tape m_taped m_size m_at m_end m_token m_whole m_nameSize m_fault m_place m_trouble2_2 a_letters m_failed m_hasHouse a_r a_fresh a_st a_undone a_kept m_undos m_images a_from a_begin a_motor a_change a_startFrame a_changeFrame a_lostAt a_blackAt a_slips a_leftArc a_died a_arcs m_bestSum m_nearest m_nearestTown a_there a_backAt a_sorted a_parts m_seed1 m_darkNow), (cAI g a_r 311 d_r), (cAI g a_st 44 d_st)] [] [0, 1, 2] [] (m_weightOf l g h0 p0 u_13 m_thrown2_1 a_tape m_taped m_size m_at m_end m_token m_whole m_nameSize m_fault m_place m_trouble2_2 a_letters m_failed m_hasHouse a_r a_fresh a_st a_undone a_kept m_undos m_images a_from a_begin a_motor a_change a_startFrame a_changeFrame a_lostAt a_blackAt a_slips a_leftArc a_died a_arcs m_bestSum m_nearest m_nearestTown a_there a_backAt a_sorted a_parts m_seed1 m_darkNow d_r d_st (iv_w iv_9 (by decide) (by decide)) hp_d_r) dX11_likeliest_50 mw1159 mw1160 mw1161 mw5 mw1162 rfl 11 rfl rfl 0 _ rfl yk_yX11_weightOf_2 rfl (Nat.le_of_ble_eq_true rfl) (Nat.le_of_ble_eq_true rfl) (Nat.le_of_ble_eq_true rfl) (Nat.le_of_ble_eq_true rfl) (Nat.le_of_ble_eq_true rfl) rfl rfl (by decide) rfl (by decide) (by decide) ?_
          rintro r_43 w rfl
          refine k_ws [(cO11_i1r1i10r1i2r5i2r12i3r4i2 h0 m_thrown2_1 a_tape m_taped m_size m_at m_end m_token m_whole m_nameSize m_fault m_place m_trouble2_2 a_letters m_failed m_hasHouse a_r a_fresh a_st a_undone a_kept m_undos m_images a_from a_begin a_motor a_change a_startFrame a_changeFrame a_lostAt a_blackAt a_slips a_leftArc a_died a_arcs m_bestSum m_nearest m_nearestTown a_there a_backAt a_sorted a_parts m_seed1 m_darkNow), (cAI g a_r 311 d_r), (cAI g a_st 44 d_st)] rfl ?_
          refine k_aload_n X dX11_likeliest_53 2 rfl ?_
          refine k_iload_n X dX11_likeliest_54 3 rfl ?_
          refine k_iload_n X dX11_likeliest_55 1 rfl ?_
          refine k_callVL (n := 2) (As := [.int p0, .int u_11]) (st := [.long r_43]) X [(cO11_i1r1i10r1i2r5i2r12i3r4i2 h0 m_thrown2_1 a_tape m_taped m_size m_at m_end m_token m_whole m_nameSize m_fault m_place m_trouble2_2 a_letters m_failed m_hasHouse a_r a_fresh a_st a_undone a_kept m_undos m_images a_from a_begin a_motor a_change a_startFrame a_changeFrame a_lostAt a_blackAt a_slips a_leftArc a_died a_arcs m_bestSum m_nearest m_nearestTown a_there a_backAt a_sorted a_parts m_seed1 m_darkNow), (cAI g a_r 311 d_r), (cAI g a_st 44 d_st)] [] [0, 1, 2] [] (m_weightOf l g h0 p0 u_11 m_thrown2_1 a_tape m_taped m_size m_at m_end m_token m_whole m_nameSize m_fault m_place m_trouble2_2 a_letters m_failed m_hasHouse a_r a_fresh a_st a_undone a_kept m_undos m_images a_from a_begin a_motor a_change a_startFrame a_changeFrame a_lostAt a_blackAt a_slips a_leftArc a_died a_arcs m_bestSum m_nearest m_nearestTown a_there a_backAt a_sorted a_parts m_seed1 m_darkNow d_r d_st (iv_w iv_9 (by decide) (by decide)) hp_d_r) dX11_likeliest_56 mw1159 mw1160 mw1161 mw5 mw1162 rfl 11 rfl rfl 0 _ rfl yk_yX11_weightOf_2 rfl (Nat.le_of_ble_eq_true rfl) (Nat.le_of_ble_eq_true rfl) (Nat.le_of_ble_eq_true rfl) (Nat.le_of_ble_eq_true rfl) (Nat.le_of_ble_eq_true rfl) rfl rfl (by decide) rfl (by decide) (by decide) ?_
          rintro r_44 w rfl
          refine k_ws [(cO11_i1r1i10r1i2r5i2r12i3r4i2 h0 m_thrown2_1 a_tape m_taped m_size m_at m_end m_token m_whole m_nameSize m_fault m_place m_trouble2_2 a_letters m_failed m_hasHouse a_r a_fresh a_st a_undone a_kept m_undos m_images a_from a_begin a_motor a_change a_startFrame a_changeFrame a_lostAt a_blackAt a_slips a_leftArc a_died a_arcs m_bestSum m_nearest m_nearestTown a_there a_backAt a_sorted a_parts m_seed1 m_darkNow), (cAI g a_r 311 d_r), (cAI g a_st 44 d_st)] rfl ?_
          refine k_lcmp X dX11_likeliest_59 ?_
          refine k_nm (fun z_45 ez_45 => ?_)
          refine k_if_le 65 X dX11_likeliest_60 (by decide) (fun h_46 => ?_) (fun h_46 => ?_)
          · skip
            have j_47 : z_45.toInt ≤ 0 := iv_le h_46
            have iv_48 : IV z_45 (-2147483648) 0 := iv_leL (iv_le h_46) (iv_any z_45) (show IV 0 0 0 from (by decide)) (by decide)
            obtain ⟨z_49, ez_49⟩ : ∃ y : Int32, u_13 + Int32.ofInt 1 = y := ⟨_, rfl⟩
            refine k_iinc z_49 [(3, .int z_49), (2, .int u_11), (0, .ref h0), (1, .int p0)] 0 X dX11_likeliest_65 rfl ez_49 (by decide) rfl ?_
            have i_50 : z_49.toInt = u_13.toInt + 1 := in_inc ez_49 (by decide) iv_25 (by decide) (by decide)
            have iv_51 : IV z_49 1 2147483647 := iz1 i_50 iv_25 (by decide) (by decide)
            refine k_goto 22 X dX11_likeliest_68 (by decide) ?_
            refine k_sub [(cAI g a_st 44 d_st), (cO11_i1r1i10r1i2r5i2r12i3r4i2 h0 m_thrown2_1 a_tape m_taped m_size m_at m_end m_token m_whole m_nameSize m_fault m_place m_trouble2_2 a_letters m_failed m_hasHouse a_r a_fresh a_st a_undone a_kept m_undos m_images a_from a_begin a_motor a_change a_startFrame a_changeFrame a_lostAt a_blackAt a_slips a_leftArc a_died a_arcs m_bestSum m_nearest m_nearestTown a_there a_backAt a_sorted a_parts m_seed1 m_darkNow), (cAI g a_r 311 d_r)] [2, 0, 1] rfl (by decide) rfl ?_
            exact ih_17 _ (by omega) u_11 z_49 rfl (iv_w iv_42 (by decide) (by decide)) (iv_w iv_51 (by decide) (by decide))
          · skip
            have j_52 : 0 < z_45.toInt := iv_nle h_46
            have iv_53 : IV z_45 1 2147483647 := iv_ltR (iv_nle h_46) (show IV 0 0 0 from (by decide)) (iv_any z_45) (by decide)
            refine k_iload_n X dX11_likeliest_63 0 rfl ?_
            refine k_istore_n [(2, .int u_13), (3, .int u_13), (0, .ref h0), (1, .int p0)] X dX11_likeliest_64 (by decide) rfl ?_
            obtain ⟨z_54, ez_54⟩ : ∃ y : Int32, u_13 + Int32.ofInt 1 = y := ⟨_, rfl⟩
            refine k_iinc z_54 [(3, .int z_54), (2, .int u_13), (0, .ref h0), (1, .int p0)] 1 X dX11_likeliest_65 rfl ez_54 (by decide) rfl ?_
            have i_55 : z_54.toInt = u_13.toInt + 1 := in_inc ez_54 (by decide) iv_25 (by decide) (by decide)
            have iv_56 : IV z_54 1 2147483647 := iz1 i_55 iv_25 (by decide) (by decide)
            refine k_goto 22 X dX11_likeliest_68 (by decide) ?_
            refine k_sub [(cAI g a_st 44 d_st), (cO11_i1r1i10r1i2r5i2r12i3r4i2 h0 m_thrown2_1 a_tape m_taped m_size m_at m_end m_token m_whole m_nameSize m_fault m_place m_trouble2_2 a_letters m_failed m_hasHouse a_r a_fresh a_st a_undone a_kept m_undos m_images a_from a_begin a_motor a_change a_startFrame a_changeFrame a_lostAt a_blackAt a_slips a_leftArc a_died a_arcs m_bestSum m_nearest m_nearestTown a_there a_backAt a_sorted a_parts m_seed1 m_darkNow), (cAI g a_r 311 d_r)] [2, 0, 1] rfl (by decide) rfl ?_
            exact ih_17 _ (by omega) u_13 z_54 rfl (iv_w iv_25 (by decide) (by decide)) (iv_w iv_56 (by decide) (by decide))
  · skip
    have iv_57 : IV r_4 0 0 := iv_meet iv_5 (iv_e h_7 (show IV 0 0 0 from (by decide))) (by decide) (by decide)
    refine k_aload_n X dX11_likeliest_12 0 rfl ?_
    refine k_iconst (v := 1) X dX11_likeliest_13 (by decide) ?_
    refine k_callVI (n := 1) (As := [.int 1]) (st := []) X [(cO11_i1r1i10r1i2r5i2r12i3r4i2 h0 m_thrown2_1 a_tape m_taped m_size m_at m_end m_token m_whole m_nameSize m_fault m_place m_trouble2_2 a_letters m_failed m_hasHouse a_r a_fresh a_st a_undone a_kept m_undos m_images a_from a_begin a_motor a_change a_startFrame a_changeFrame a_lostAt a_blackAt a_slips a_leftArc a_died a_arcs m_bestSum m_nearest m_nearestTown a_there a_backAt a_sorted a_parts m_seed1 m_darkNow)] [(cAI g a_st 44 d_st), (cAI g a_r 311 d_r)] [1] [0, 2] (m_no l g h0 1 m_thrown2_1 a_tape m_taped m_size m_at m_end m_token m_whole m_nameSize m_fault m_place m_trouble2_2 a_letters m_failed m_hasHouse a_r a_fresh a_st a_undone a_kept m_undos m_images a_from a_begin a_motor a_change a_startFrame a_changeFrame a_lostAt a_blackAt a_slips a_leftArc a_died a_arcs m_bestSum m_nearest m_nearestTown a_there a_backAt a_sorted a_parts m_seed1 m_darkNow) dX11_likeliest_14 mw485 mw486 mw487 mw5 mw488 rfl 11 rfl rfl 0 _ rfl yk_yX11_no_1 rfl (Nat.le_of_ble_eq_true rfl) (Nat.le_of_ble_eq_true rfl) (Nat.le_of_ble_eq_true rfl) (Nat.le_of_ble_eq_true rfl) (Nat.le_of_ble_eq_true rfl) rfl rfl (by decide) rfl (by decide) (by decide) ?_
    rintro r_59 w ⟨m_trouble2_58, iv_60, rfl⟩
    refine k_ws [(cAI g a_st 44 d_st), (cAI g a_r 311 d_r), (cO11_i1r1i10r1i2r5i2r12i3r4i2 h0 m_thrown2_1 a_tape m_taped m_size m_at m_end m_token m_whole m_nameSize m_fault m_place m_trouble2_58 a_letters m_failed m_hasHouse a_r a_fresh a_st a_undone a_kept m_undos m_images a_from a_begin a_motor a_change a_startFrame a_changeFrame a_lostAt a_blackAt a_slips a_leftArc a_died a_arcs m_bestSum m_nearest m_nearestTown a_there a_backAt a_sorted a_parts m_seed1 m_darkNow)] rfl ?_
    exact k_iret X hr dX11_likeliest_17 (Nat.le_of_ble_eq_true rfl) (Nat.le_of_ble_eq_true rfl) [2, 1, 0] (by decide) rfl rfl ⟨m_thrown2_1, m_trouble2_58, rfl⟩

theorem dX11_missing_0 : decode cX11_missing 0 = .ok (.aload_n 0, 1) := dk_42 rfl
theorem dX11_missing_1 : decode cX11_missing 1 = .ok (.invokevirtual 200, 3) := dk_182 rfl rfl rfl rfl
theorem dX11_missing_4 : decode cX11_missing 4 = .ok (.aload_n 0, 1) := dk_42 rfl
theorem dX11_missing_5 : decode cX11_missing 5 = .ok (.iload_n 1, 1) := dk_27 rfl
theorem dX11_missing_6 : decode cX11_missing 6 = .ok (.invokevirtual 327, 3) := dk_182 rfl rfl rfl rfl
theorem dX11_missing_9 : decode cX11_missing 9 = .ok (.ifCond .ne 9, 3) := dk_154 rfl rfl rfl (by decide)
theorem dX11_missing_12 : decode cX11_missing 12 = .ok (.aload_n 0, 1) := dk_42 rfl
theorem dX11_missing_13 : decode cX11_missing 13 = .ok (.iconst 1, 1) := dk_4 rfl
theorem dX11_missing_14 : decode cX11_missing 14 = .ok (.invokevirtual 203, 3) := dk_182 rfl rfl rfl rfl
theorem dX11_missing_17 : decode cX11_missing 17 = .ok (.ireturn, 1) := dk_172 rfl
theorem dX11_missing_18 : decode cX11_missing 18 = .ok (.aload_n 0, 1) := dk_42 rfl
theorem dX11_missing_19 : decode cX11_missing 19 = .ok (.getfield 20, 3) := dk_180 rfl rfl rfl rfl
theorem dX11_missing_22 : decode cX11_missing 22 = .ok (.bipush 16, 2) := dk_16 rfl rfl (by decide)
theorem dX11_missing_24 : decode cX11_missing 24 = .ok (.iconst 3, 1) := dk_6 rfl
theorem dX11_missing_25 : decode cX11_missing 25 = .ok (.iload_n 1, 1) := dk_27 rfl
theorem dX11_missing_26 : decode cX11_missing 26 = .ok (.imul, 1) := dk_104 rfl
theorem dX11_missing_27 : decode cX11_missing 27 = .ok (.iadd, 1) := dk_96 rfl
theorem dX11_missing_28 : decode cX11_missing 28 = .ok (.iconst 2, 1) := dk_5 rfl
theorem dX11_missing_29 : decode cX11_missing 29 = .ok (.iadd, 1) := dk_96 rfl
theorem dX11_missing_30 : decode cX11_missing 30 = .ok (.iaload, 1) := dk_46 rfl
theorem dX11_missing_31 : decode cX11_missing 31 = .ok (.aload_n 0, 1) := dk_42 rfl
theorem dX11_missing_32 : decode cX11_missing 32 = .ok (.getfield 26, 3) := dk_180 rfl rfl rfl rfl
theorem dX11_missing_35 : decode cX11_missing 35 = .ok (.iconst 0, 1) := dk_3 rfl
theorem dX11_missing_36 : decode cX11_missing 36 = .ok (.iload_n 1, 1) := dk_27 rfl
theorem dX11_missing_37 : decode cX11_missing 37 = .ok (.iadd, 1) := dk_96 rfl
theorem dX11_missing_38 : decode cX11_missing 38 = .ok (.iaload, 1) := dk_46 rfl
theorem dX11_missing_39 : decode cX11_missing 39 = .ok (.isub, 1) := dk_100 rfl
theorem dX11_missing_40 : decode cX11_missing 40 = .ok (.istore_n 3, 1) := dk_62 rfl
theorem dX11_missing_41 : decode cX11_missing 41 = .ok (.iload_n 2, 1) := dk_28 rfl
theorem dX11_missing_42 : decode cX11_missing 42 = .ok (.ifCond .ne 5, 3) := dk_154 rfl rfl rfl (by decide)
theorem dX11_missing_45 : decode cX11_missing 45 = .ok (.iload_n 3, 1) := dk_29 rfl
theorem dX11_missing_46 : decode cX11_missing 46 = .ok (.ireturn, 1) := dk_172 rfl
theorem dX11_missing_47 : decode cX11_missing 47 = .ok (.iconst 0, 1) := dk_3 rfl
theorem dX11_missing_48 : decode cX11_missing 48 = .ok (.istore 4, 2) := dk_54 rfl rfl rfl
theorem dX11_missing_50 : decode cX11_missing 50 = .ok (.iload 4, 2) := dk_21 rfl rfl rfl
theorem dX11_missing_52 : decode cX11_missing 52 = .ok (.aload_n 0, 1) := dk_42 rfl
theorem dX11_missing_53 : decode cX11_missing 53 = .ok (.getfield 20, 3) := dk_180 rfl rfl rfl rfl
theorem dX11_missing_56 : decode cX11_missing 56 = .ok (.bipush 9, 2) := dk_16 rfl rfl (by decide)
theorem dX11_missing_58 : decode cX11_missing 58 = .ok (.iaload, 1) := dk_46 rfl
theorem dX11_missing_59 : decode cX11_missing 59 = .ok (.if_icmp .ge 46, 3) := dk_162 rfl rfl rfl (by decide)
theorem dX11_missing_62 : decode cX11_missing 62 = .ok (.iload_n 3, 1) := dk_29 rfl
theorem dX11_missing_63 : decode cX11_missing 63 = .ok (.aload_n 0, 1) := dk_42 rfl
theorem dX11_missing_64 : decode cX11_missing 64 = .ok (.getfield 20, 3) := dk_180 rfl rfl rfl rfl
theorem dX11_missing_67 : decode cX11_missing 67 = .ok (.bipush 80, 2) := dk_16 rfl rfl (by decide)
theorem dX11_missing_69 : decode cX11_missing 69 = .ok (.iconst 2, 1) := dk_5 rfl
theorem dX11_missing_70 : decode cX11_missing 70 = .ok (.iload 4, 2) := dk_21 rfl rfl rfl
theorem dX11_missing_72 : decode cX11_missing 72 = .ok (.imul, 1) := dk_104 rfl
theorem dX11_missing_73 : decode cX11_missing 73 = .ok (.iadd, 1) := dk_96 rfl
theorem dX11_missing_74 : decode cX11_missing 74 = .ok (.iaload, 1) := dk_46 rfl
theorem dX11_missing_75 : decode cX11_missing 75 = .ok (.iload_n 1, 1) := dk_27 rfl
theorem dX11_missing_76 : decode cX11_missing 76 = .ok (.if_icmp .ne 20, 3) := dk_160 rfl rfl rfl (by decide)
theorem dX11_missing_79 : decode cX11_missing 79 = .ok (.aload_n 0, 1) := dk_42 rfl
theorem dX11_missing_80 : decode cX11_missing 80 = .ok (.getfield 20, 3) := dk_180 rfl rfl rfl rfl
theorem dX11_missing_83 : decode cX11_missing 83 = .ok (.bipush 80, 2) := dk_16 rfl rfl (by decide)
theorem dX11_missing_85 : decode cX11_missing 85 = .ok (.iconst 2, 1) := dk_5 rfl
theorem dX11_missing_86 : decode cX11_missing 86 = .ok (.iload 4, 2) := dk_21 rfl rfl rfl
theorem dX11_missing_88 : decode cX11_missing 88 = .ok (.imul, 1) := dk_104 rfl
theorem dX11_missing_89 : decode cX11_missing 89 = .ok (.iadd, 1) := dk_96 rfl
theorem dX11_missing_90 : decode cX11_missing 90 = .ok (.iconst 1, 1) := dk_4 rfl
theorem dX11_missing_91 : decode cX11_missing 91 = .ok (.iadd, 1) := dk_96 rfl
theorem dX11_missing_92 : decode cX11_missing 92 = .ok (.iaload, 1) := dk_46 rfl
theorem dX11_missing_93 : decode cX11_missing 93 = .ok (.goto 4, 3) := dk_167 rfl rfl rfl (by decide)
theorem dX11_missing_96 : decode cX11_missing 96 = .ok (.iconst 0, 1) := dk_3 rfl
theorem dX11_missing_97 : decode cX11_missing 97 = .ok (.isub, 1) := by decide +kernel
theorem dX11_missing_98 : decode cX11_missing 98 = .ok (.istore_n 3, 1) := by decide +kernel
theorem dX11_missing_99 : decode cX11_missing 99 = .ok (.iinc 4 1, 3) := by decide +kernel
theorem dX11_missing_102 : decode cX11_missing 102 = .ok (.goto (-52), 3) := by decide +kernel
theorem dX11_missing_105 : decode cX11_missing 105 = .ok (.iconst 0, 1) := by decide +kernel
theorem dX11_missing_106 : decode cX11_missing 106 = .ok (.istore 4, 2) := by decide +kernel
theorem dX11_missing_108 : decode cX11_missing 108 = .ok (.iload 4, 2) := by decide +kernel
theorem dX11_missing_110 : decode cX11_missing 110 = .ok (.aload_n 0, 1) := by decide +kernel
theorem dX11_missing_111 : decode cX11_missing 111 = .ok (.getfield 20, 3) := by decide +kernel
theorem dX11_missing_114 : decode cX11_missing 114 = .ok (.bipush 10, 2) := by decide +kernel
theorem dX11_missing_116 : decode cX11_missing 116 = .ok (.iaload, 1) := by decide +kernel
theorem dX11_missing_117 : decode cX11_missing 117 = .ok (.if_icmp .ge 42, 3) := by decide +kernel
theorem dX11_missing_120 : decode cX11_missing 120 = .ok (.iload_n 3, 1) := by decide +kernel
theorem dX11_missing_121 : decode cX11_missing 121 = .ok (.aload_n 0, 1) := by decide +kernel
theorem dX11_missing_122 : decode cX11_missing 122 = .ok (.iload 4, 2) := by decide +kernel
theorem dX11_missing_124 : decode cX11_missing 124 = .ok (.invokevirtual 339, 3) := by decide +kernel
theorem dX11_missing_127 : decode cX11_missing 127 = .ok (.ifCond .eq 23, 3) := by decide +kernel
theorem dX11_missing_130 : decode cX11_missing 130 = .ok (.aload_n 0, 1) := by decide +kernel
theorem dX11_missing_131 : decode cX11_missing 131 = .ok (.getfield 20, 3) := by decide +kernel
theorem dX11_missing_134 : decode cX11_missing 134 = .ok (.bipush 96, 2) := by decide +kernel
theorem dX11_missing_136 : decode cX11_missing 136 = .ok (.iconst 3, 1) := by decide +kernel
theorem dX11_missing_137 : decode cX11_missing 137 = .ok (.iload 4, 2) := by decide +kernel
theorem dX11_missing_139 : decode cX11_missing 139 = .ok (.imul, 1) := by decide +kernel
theorem dX11_missing_140 : decode cX11_missing 140 = .ok (.iadd, 1) := by decide +kernel
theorem dX11_missing_141 : decode cX11_missing 141 = .ok (.iaload, 1) := by decide +kernel
theorem dX11_missing_142 : decode cX11_missing 142 = .ok (.iload_n 1, 1) := by decide +kernel
theorem dX11_missing_143 : decode cX11_missing 143 = .ok (.if_icmp .ne 7, 3) := by decide +kernel
theorem dX11_missing_146 : decode cX11_missing 146 = .ok (.iconst 2, 1) := by decide +kernel
theorem dX11_missing_147 : decode cX11_missing 147 = .ok (.goto 4, 3) := by decide +kernel
theorem dX11_missing_150 : decode cX11_missing 150 = .ok (.iconst 0, 1) := by decide +kernel
theorem dX11_missing_151 : decode cX11_missing 151 = .ok (.isub, 1) := by decide +kernel
theorem dX11_missing_152 : decode cX11_missing 152 = .ok (.istore_n 3, 1) := by decide +kernel
theorem dX11_missing_153 : decode cX11_missing 153 = .ok (.iinc 4 1, 3) := by decide +kernel
theorem dX11_missing_156 : decode cX11_missing 156 = .ok (.goto (-48), 3) := by decide +kernel
theorem dX11_missing_159 : decode cX11_missing 159 = .ok (.iload_n 3, 1) := by decide +kernel
theorem dX11_missing_160 : decode cX11_missing 160 = .ok (.iconst 0, 1) := by decide +kernel
theorem dX11_missing_161 : decode cX11_missing 161 = .ok (.invokestatic 351, 3) := by decide +kernel
theorem dX11_missing_164 : decode cX11_missing 164 = .ok (.ireturn, 1) := by decide +kernel
set_option maxHeartbeats 4000000 in
set_option maxRecDepth 100000 in
theorem m_missing (l : Launch) (g : Gx) (h0 : Nat) (p0 : Int32) (p1 : Int32) (m_thrown : Int32) (a_tape : Nat) (m_taped : Int32) (m_size : Int32) (m_at : Int32) (m_end : Int32) (m_token : Int32) (m_whole : Int32) (m_nameSize : Int32) (m_fault : Int32) (m_place : Int32) (m_trouble : Int32) (a_letters : Nat) (m_failed : Int32) (m_hasHouse : Int32) (a_r : Nat) (a_fresh : Nat) (a_st : Nat) (a_undone : Nat) (a_kept : Nat) (m_undos : Int32) (m_images : Int32) (a_from : Nat) (a_begin : Nat) (a_motor : Nat) (a_change : Nat) (a_startFrame : Nat) (a_changeFrame : Nat) (a_lostAt : Nat) (a_blackAt : Nat) (a_slips : Nat) (a_leftArc : Nat) (a_died : Nat) (a_arcs : Nat) (m_bestSum : Int32) (m_nearest : Int32) (m_nearestTown : Int32) (a_there : Nat) (a_backAt : Nat) (a_sorted : Nat) (a_parts : Nat) (m_seed1 : Int32) (m_darkNow : Int32) (d_r : Nat → Int32) (d_st : Nat → Int32) (hv_m_hasHouse : IV m_hasHouse 0 1) (hp_d_r : RInv d_r) : cI l g yX11_missing cX11_missing 5 (some .int) 2 43 0 0 [.ref h0, .int p0, .int p1] [(cO11_i1r1i10r1i2r5i2r12i3r4i2 h0 m_thrown a_tape m_taped m_size m_at m_end m_token m_whole m_nameSize m_fault m_place m_trouble a_letters m_failed m_hasHouse a_r a_fresh a_st a_undone a_kept m_undos m_images a_from a_begin a_motor a_change a_startFrame a_changeFrame a_lostAt a_blackAt a_slips a_leftArc a_died a_arcs m_bestSum m_nearest m_nearestTown a_there a_backAt a_sorted a_parts m_seed1 m_darkNow), (cAI g a_r 311 d_r), (cAI g a_st 44 d_st)] (fun r w => ∃ (m_thrown2 : Int32) (m_trouble2 : Int32), w = [(cO11_i1r1i10r1i2r5i2r12i3r4i2 h0 m_thrown2 a_tape m_taped m_size m_at m_end m_token m_whole m_nameSize m_fault m_place m_trouble2 a_letters m_failed m_hasHouse a_r a_fresh a_st a_undone a_kept m_undos m_images a_from a_begin a_motor a_change a_startFrame a_changeFrame a_lostAt a_blackAt a_slips a_leftArc a_died a_arcs m_bestSum m_nearest m_nearestTown a_there a_backAt a_sorted a_parts m_seed1 m_darkNow), (cAI g a_r 311 d_r), (cAI g a_st 44 d_st)]) := by
  refine cI.of (by decide) (Nat.le_of_ble_eq_true rfl) ?_
  intro p e s m args below meth c A X hr hi
  refine k_lveq [(0, .ref h0), (1, .int p0), (2, .int p1)] rfl ?_
  refine k_aload_n X dX11_missing_0 0 rfl ?_
  refine k_callVV (n := 0) (As := []) (st := []) X [(cO11_i1r1i10r1i2r5i2r12i3r4i2 h0 m_thrown a_tape m_taped m_size m_at m_end m_token m_whole m_nameSize m_fault m_place m_trouble a_letters m_failed m_hasHouse a_r a_fresh a_st a_undone a_kept m_undos m_images a_from a_begin a_motor a_change a_startFrame a_changeFrame a_lostAt a_blackAt a_slips a_leftArc a_died a_arcs m_bestSum m_nearest m_nearestTown a_there a_backAt a_sorted a_parts m_seed1 m_darkNow)] [(cAI g a_r 311 d_r), (cAI g a_st 44 d_st)] [0] [1, 2] (m_good l g h0 m_thrown a_tape m_taped m_size m_at m_end m_token m_whole m_nameSize m_fault m_place m_trouble a_letters m_failed m_hasHouse a_r a_fresh a_st a_undone a_kept m_undos m_images a_from a_begin a_motor a_change a_startFrame a_changeFrame a_lostAt a_blackAt a_slips a_leftArc a_died a_arcs m_bestSum m_nearest m_nearestTown a_there a_backAt a_sorted a_parts m_seed1 m_darkNow) dX11_missing_1 mw477 mw478 mw479 mw5 mw480 rfl 11 rfl rfl 0 _ rfl yk_yX11_good_0 rfl (Nat.le_of_ble_eq_true rfl) (Nat.le_of_ble_eq_true rfl) (Nat.le_of_ble_eq_true rfl) (Nat.le_of_ble_eq_true rfl) (Nat.le_of_ble_eq_true rfl) rfl rfl (by decide) rfl (by decide) (by decide) ?_
  rintro w ⟨m_thrown2_1, m_trouble2_2, rfl⟩
  refine k_ws [(cAI g a_r 311 d_r), (cAI g a_st 44 d_st), (cO11_i1r1i10r1i2r5i2r12i3r4i2 h0 m_thrown2_1 a_tape m_taped m_size m_at m_end m_token m_whole m_nameSize m_fault m_place m_trouble2_2 a_letters m_failed m_hasHouse a_r a_fresh a_st a_undone a_kept m_undos m_images a_from a_begin a_motor a_change a_startFrame a_changeFrame a_lostAt a_blackAt a_slips a_leftArc a_died a_arcs m_bestSum m_nearest m_nearestTown a_there a_backAt a_sorted a_parts m_seed1 m_darkNow)] rfl ?_
  refine k_aload_n X dX11_missing_4 0 rfl ?_
  refine k_iload_n X dX11_missing_5 1 rfl ?_
  refine k_callVI (n := 1) (As := [.int p0]) (st := []) X [(cO11_i1r1i10r1i2r5i2r12i3r4i2 h0 m_thrown2_1 a_tape m_taped m_size m_at m_end m_token m_whole m_nameSize m_fault m_place m_trouble2_2 a_letters m_failed m_hasHouse a_r a_fresh a_st a_undone a_kept m_undos m_images a_from a_begin a_motor a_change a_startFrame a_changeFrame a_lostAt a_blackAt a_slips a_leftArc a_died a_arcs m_bestSum m_nearest m_nearestTown a_there a_backAt a_sorted a_parts m_seed1 m_darkNow), (cAI g a_r 311 d_r)] [(cAI g a_st 44 d_st)] [2, 0] [1] (m_isReel l g h0 p0 m_thrown2_1 a_tape m_taped m_size m_at m_end m_token m_whole m_nameSize m_fault m_place m_trouble2_2 a_letters m_failed m_hasHouse a_r a_fresh a_st a_undone a_kept m_undos m_images a_from a_begin a_motor a_change a_startFrame a_changeFrame a_lostAt a_blackAt a_slips a_leftArc a_died a_arcs m_bestSum m_nearest m_nearestTown a_there a_backAt a_sorted a_parts m_seed1 m_darkNow d_r (iv_w hv_m_hasHouse (by decide) (by decide)) hp_d_r) dX11_missing_6 mw670 mw671 mw672 mw5 mw673 rfl 11 rfl rfl 0 _ rfl yk_yX11_isReel_1 rfl (Nat.le_of_ble_eq_true rfl) (Nat.le_of_ble_eq_true rfl) (Nat.le_of_ble_eq_true rfl) (Nat.le_of_ble_eq_true rfl) (Nat.le_of_ble_eq_true rfl) rfl rfl (by decide) rfl (by decide) (by decide) ?_
  rintro r_4 w ⟨iv_5, hk_6, rfl⟩
  refine k_ws [(cAI g a_st 44 d_st), (cO11_i1r1i10r1i2r5i2r12i3r4i2 h0 m_thrown2_1 a_tape m_taped m_size m_at m_end m_token m_whole m_nameSize m_fault m_place m_trouble2_2 a_letters m_failed m_hasHouse a_r a_fresh a_st a_undone a_kept m_undos m_images a_from a_begin a_motor a_change a_startFrame a_changeFrame a_lostAt a_blackAt a_slips a_leftArc a_died a_arcs m_bestSum m_nearest m_nearestTown a_there a_backAt a_sorted a_parts m_seed1 m_darkNow), (cAI g a_r 311 d_r)] rfl ?_
  refine k_if_ne 18 X dX11_missing_9 (by decide) (fun h_7 => ?_) (fun h_7 => ?_)
  · skip
    have hc_8 := hk_6.resolve_left h_7
    have iv_9 : IV p0 0 7 := iv_meet (iv_any p0) hc_8 (by decide) (by decide)
    have iv_10 : IV r_4 1 1 := iv_neL h_7 iv_5 (show IV 0 0 0 from (by decide)) (by decide)
    refine k_aload_n X dX11_missing_18 0 rfl ?_
    refine k_get (ci := 11) X inlX11 rfl 15 (by decide) dX11_missing_19 mw170 1 rfl rfl ?_
    refine k_bipush (v := 16) X dX11_missing_22 (by decide) ?_
    refine k_iconst (v := 3) X dX11_missing_24 (by decide) ?_
    refine k_iload_n X dX11_missing_25 1 rfl ?_
    refine k_imul X dX11_missing_26 ?_
    refine k_nm (fun z_11 ez_11 => ?_)
    have i_12 : z_11.toInt = 3 * p0.toInt := in_mul ez_11 (by decide) (by decide) iv_9 (by decide) (by decide)
    have iv_13 : IV z_11 0 21 := iz4 i_12 iv_9 (by decide) (by decide) (by decide)
    refine k_iadd X dX11_missing_27 ?_
    refine k_nm (fun z_14 ez_14 => ?_)
    have i_15 : z_14.toInt = 16 + z_11.toInt := in_add ez_14 (show IV 16 16 16 from (by decide)) iv_13 (by decide) (by decide)
    have iv_16 : IV z_14 16 37 := iz2 i_15 iv_13 (by decide) (by decide)
    refine k_iconst (v := 2) X dX11_missing_28 (by decide) ?_
    refine k_iadd X dX11_missing_29 ?_
    refine k_nm (fun z_17 ez_17 => ?_)
    have i_18 : z_17.toInt = z_14.toInt + 2 := in_add ez_17 iv_16 (show IV 2 2 2 from (by decide)) (by decide) (by decide)
    have iv_19 : IV z_17 18 39 := iz1 i_18 iv_16 (by decide) (by decide)
    refine k_iald X dX11_missing_30 2 rfl (iv_in iv_19 (by decide) (by decide)) ?_
    refine k_nm (fun z_20 ez_20 => ?_)
    refine k_aload_n X dX11_missing_31 0 rfl ?_
    refine k_get (ci := 11) X inlX11 rfl 17 (by decide) dX11_missing_32 mw172 1 rfl rfl ?_
    refine k_iconst (v := 0) X dX11_missing_35 (by decide) ?_
    refine k_iload_n X dX11_missing_36 1 rfl ?_
    refine k_iadd X dX11_missing_37 ?_
    refine k_nm (fun z_21 ez_21 => ?_)
    have i_22 : z_21.toInt = 0 + p0.toInt := in_add ez_21 (show IV 0 0 0 from (by decide)) iv_9 (by decide) (by decide)
    have iv_23 : IV z_21 0 7 := iz2 i_22 iv_9 (by decide) (by decide)
    refine k_iald X dX11_missing_38 0 rfl (iv_in iv_23 (by decide) (by decide)) ?_
    refine k_nm (fun z_24 ez_24 => ?_)
    refine k_isub X dX11_missing_39 ?_
    refine k_nm (fun z_25 ez_25 => ?_)
    refine k_istore_n [(3, .int z_25), (0, .ref h0), (1, .int p0), (2, .int p1)] X dX11_missing_40 (by decide) rfl ?_
    refine k_iload_n X dX11_missing_41 3 rfl ?_
    refine k_if_ne 47 X dX11_missing_42 (by decide) (fun h_27 => ?_) (fun h_27 => ?_)
    · skip
      refine k_iconst (v := 0) X dX11_missing_47 (by decide) ?_
      refine k_istore [(4, .int 0), (3, .int z_25), (0, .ref h0), (1, .int p0), (2, .int p1)] X dX11_missing_48 (by decide) rfl ?_
      refine (fun hL : ∀ (nn_31 : Nat) (u_28 : Int32) (u_29 : Int32), (2147483647 - u_29.toInt).toNat = nn_31 → (IV u_29 0 8) → Wk p l e _ s m args below meth c _ A g _ _ _ [(cAI g a_st 44 d_st), (cO11_i1r1i10r1i2r5i2r12i3r4i2 h0 m_thrown2_1 a_tape m_taped m_size m_at m_end m_token m_whole m_nameSize m_fault m_place m_trouble2_2 a_letters m_failed m_hasHouse a_r a_fresh a_st a_undone a_kept m_undos m_images a_from a_begin a_motor a_change a_startFrame a_changeFrame a_lostAt a_blackAt a_slips a_leftArc a_died a_arcs m_bestSum m_nearest m_nearestTown a_there a_backAt a_sorted a_parts m_seed1 m_darkNow), (cAI g a_r 311 d_r)] [(4, .int u_29), (3, .int u_28), (0, .ref h0), (1, .int p0), (2, .int p1)] 50 [] => hL _ z_25 0 rfl (iv_w (show IV 0 0 0 from (by decide)) (by decide) (by decide))) ?_
      refine fun nn_31 => Nat.strongRecOn nn_31 (fun nn_31 ih_33 => ?_)
      intro u_28 u_29 hm_32 hv_30
      refine k_iload X dX11_missing_50 0 rfl ?_
      refine k_aload_n X dX11_missing_52 2 rfl ?_
      refine k_get (ci := 11) X inlX11 rfl 15 (by decide) dX11_missing_53 mw170 1 rfl rfl ?_
      refine k_bipush (v := 9) X dX11_missing_56 (by decide) ?_
      refine k_iald X dX11_missing_58 2 rfl (by unfold vp_in; decide) ?_
      refine k_nm (fun z_34 ez_34 => ?_)
      have i_35 : z_34.toInt = (d_r 9).toInt := by rw [ez_34]; rfl
      have iv_36 : IV z_34 0 8 := rb_9 ez_34 hp_d_r
      refine k_ic_ge 105 X dX11_missing_59 (by decide) (fun h_37 => ?_) (fun h_37 => ?_)
      · skip
        have j_38 : z_34.toInt ≤ u_29.toInt := iv_le h_37
        refine k_iconst (v := 0) X dX11_missing_105 (by decide) ?_
        refine k_istore [(4, .int 0), (3, .int u_28), (0, .ref h0), (1, .int p0), (2, .int p1)] X dX11_missing_106 (by decide) rfl ?_
        refine (fun hL : ∀ (nn_42 : Nat) (u_39 : Int32) (u_40 : Int32), (2147483647 - u_40.toInt).toNat = nn_42 → (IV u_40 0 8) → Wk p l e _ s m args below meth c _ A g _ _ _ [(cAI g a_st 44 d_st), (cO11_i1r1i10r1i2r5i2r12i3r4i2 h0 m_thrown2_1 a_tape m_taped m_size m_at m_end m_token m_whole m_nameSize m_fault m_place m_trouble2_2 a_letters m_failed m_hasHouse a_r a_fresh a_st a_undone a_kept m_undos m_images a_from a_begin a_motor a_change a_startFrame a_changeFrame a_lostAt a_blackAt a_slips a_leftArc a_died a_arcs m_bestSum m_nearest m_nearestTown a_there a_backAt a_sorted a_parts m_seed1 m_darkNow), (cAI g a_r 311 d_r)] [(4, .int u_40), (3, .int u_39), (0, .ref h0), (1, .int p0), (2, .int p1)] 108 [] => hL _ u_28 0 rfl (iv_w (show IV 0 0 0 from (by decide)) (by decide) (by decide))) ?_
        refine fun nn_42 => Nat.strongRecOn nn_42 (fun nn_42 ih_44 => ?_)
        intro u_39 u_40 hm_43 hv_41
        refine k_iload X dX11_missing_108 0 rfl ?_
        refine k_aload_n X dX11_missing_110 2 rfl ?_
        refine k_get (ci := 11) X inlX11 rfl 15 (by decide) dX11_missing_111 mw170 1 rfl rfl ?_
        refine k_bipush (v := 10) X dX11_missing_114 (by decide) ?_
        refine k_iald X dX11_missing_116 2 rfl (by unfold vp_in; decide) ?_
        refine k_nm (fun z_45 ez_45 => ?_)
        have i_46 : z_45.toInt = (d_r 10).toInt := by rw [ez_45]; rfl
        have iv_47 : IV z_45 0 6 := rb_10 ez_45 hp_d_r
        refine k_ic_ge 159 X dX11_missing_117 (by decide) (fun h_48 => ?_) (fun h_48 => ?_)
        · skip
          have j_49 : z_45.toInt ≤ u_40.toInt := iv_le h_48
          refine k_iload_n X dX11_missing_159 1 rfl ?_
          refine k_iconst (v := 0) X dX11_missing_160 (by decide) ?_
          refine k_callSI (n := 2) (As := [.int u_39, .int 0]) (st := []) X [] [(cAI g a_st 44 d_st), (cO11_i1r1i10r1i2r5i2r12i3r4i2 h0 m_thrown2_1 a_tape m_taped m_size m_at m_end m_token m_whole m_nameSize m_fault m_place m_trouble2_2 a_letters m_failed m_hasHouse a_r a_fresh a_st a_undone a_kept m_undos m_images a_from a_begin a_motor a_change a_startFrame a_changeFrame a_lostAt a_blackAt a_slips a_leftArc a_died a_arcs m_bestSum m_nearest m_nearestTown a_there a_backAt a_sorted a_parts m_seed1 m_darkNow), (cAI g a_r 311 d_r)] [] [0, 1, 2] (m_most l g u_39 0) dX11_missing_161 mw842 mw843 mw5 mw844 yk_yX11_most_2 rfl (Nat.le_of_ble_eq_true rfl) (Nat.le_of_ble_eq_true rfl) (Nat.le_of_ble_eq_true rfl) (Nat.le_of_ble_eq_true rfl) (Nat.le_of_ble_eq_true rfl) rfl rfl (by decide) rfl (by decide) (by decide) ?_
          rintro r_50 w rfl
          refine k_ws [(cAI g a_st 44 d_st), (cO11_i1r1i10r1i2r5i2r12i3r4i2 h0 m_thrown2_1 a_tape m_taped m_size m_at m_end m_token m_whole m_nameSize m_fault m_place m_trouble2_2 a_letters m_failed m_hasHouse a_r a_fresh a_st a_undone a_kept m_undos m_images a_from a_begin a_motor a_change a_startFrame a_changeFrame a_lostAt a_blackAt a_slips a_leftArc a_died a_arcs m_bestSum m_nearest m_nearestTown a_there a_backAt a_sorted a_parts m_seed1 m_darkNow), (cAI g a_r 311 d_r)] rfl ?_
          exact k_iret X hr dX11_missing_164 (Nat.le_of_ble_eq_true rfl) (Nat.le_of_ble_eq_true rfl) [1, 2, 0] (by decide) rfl rfl ⟨m_thrown2_1, m_trouble2_2, rfl⟩
        · skip
          have j_51 : u_40.toInt < z_45.toInt := iv_nle h_48
          have iv_52 : IV u_40 0 5 := iv_ltL (iv_nle h_48) hv_41 iv_47 (by decide)
          have iv_53 : IV z_45 1 6 := iv_ltR (iv_nle h_48) hv_41 iv_47 (by decide)
          refine k_iload_n X dX11_missing_120 1 rfl ?_
          refine k_aload_n X dX11_missing_121 2 rfl ?_
          refine k_iload X dX11_missing_122 0 rfl ?_
          refine k_callVI (n := 1) (As := [.int u_40]) (st := [.int u_39]) X [(cO11_i1r1i10r1i2r5i2r12i3r4i2 h0 m_thrown2_1 a_tape m_taped m_size m_at m_end m_token m_whole m_nameSize m_fault m_place m_trouble2_2 a_letters m_failed m_hasHouse a_r a_fresh a_st a_undone a_kept m_undos m_images a_from a_begin a_motor a_change a_startFrame a_changeFrame a_lostAt a_blackAt a_slips a_leftArc a_died a_arcs m_bestSum m_nearest m_nearestTown a_there a_backAt a_sorted a_parts m_seed1 m_darkNow), (cAI g a_st 44 d_st)] [(cAI g a_r 311 d_r)] [1, 0] [2] (m_isMended l g h0 u_40 m_thrown2_1 a_tape m_taped m_size m_at m_end m_token m_whole m_nameSize m_fault m_place m_trouble2_2 a_letters m_failed m_hasHouse a_r a_fresh a_st a_undone a_kept m_undos m_images a_from a_begin a_motor a_change a_startFrame a_changeFrame a_lostAt a_blackAt a_slips a_leftArc a_died a_arcs m_bestSum m_nearest m_nearestTown a_there a_backAt a_sorted a_parts m_seed1 m_darkNow d_st) dX11_missing_124 mw682 mw683 mw684 mw5 mw685 rfl 11 rfl rfl 0 _ rfl yk_yX11_isMended_1 rfl (Nat.le_of_ble_eq_true rfl) (Nat.le_of_ble_eq_true rfl) (Nat.le_of_ble_eq_true rfl) (Nat.le_of_ble_eq_true rfl) (Nat.le_of_ble_eq_true rfl) rfl rfl (by decide) rfl (by decide) (by decide) ?_
          rintro r_54 w ⟨iv_55, rfl⟩
          refine k_ws [(cAI g a_r 311 d_r), (cO11_i1r1i10r1i2r5i2r12i3r4i2 h0 m_thrown2_1 a_tape m_taped m_size m_at m_end m_token m_whole m_nameSize m_fault m_place m_trouble2_2 a_letters m_failed m_hasHouse a_r a_fresh a_st a_undone a_kept m_undos m_images a_from a_begin a_motor a_change a_startFrame a_changeFrame a_lostAt a_blackAt a_slips a_leftArc a_died a_arcs m_bestSum m_nearest m_nearestTown a_there a_backAt a_sorted a_parts m_seed1 m_darkNow), (cAI g a_st 44 d_st)] rfl ?_
          refine k_if_eq 150 X dX11_missing_127 (by decide) (fun h_56 => ?_) (fun h_56 => ?_)
          · skip
            have iv_57 : IV r_54 0 0 := iv_meet iv_55 (iv_e h_56 (show IV 0 0 0 from (by decide))) (by decide) (by decide)
            refine k_iconst (v := 0) X dX11_missing_150 (by decide) ?_
            refine k_isub X dX11_missing_151 ?_
            refine k_nm (fun z_58 ez_58 => ?_)
            have i_59 : z_58.toInt = u_39.toInt - 0 := in_sub ez_58 (iv_any u_39) (show IV 0 0 0 from (by decide)) (by decide) (by decide)
            have iv_60 : IV z_58 (-2147483648) 2147483647 := by have := (iv_any u_39); have := (show IV 0 0 0 from (by decide)); rw [IV, i_59]; omega
            refine k_istore_n [(3, .int z_58), (4, .int u_40), (0, .ref h0), (1, .int p0), (2, .int p1)] X dX11_missing_152 (by decide) rfl ?_
            obtain ⟨z_61, ez_61⟩ : ∃ y : Int32, u_40 + Int32.ofInt 1 = y := ⟨_, rfl⟩
            refine k_iinc z_61 [(4, .int z_61), (3, .int z_58), (0, .ref h0), (1, .int p0), (2, .int p1)] 1 X dX11_missing_153 rfl ez_61 (by decide) rfl ?_
            have i_62 : z_61.toInt = u_40.toInt + 1 := in_inc ez_61 (by decide) iv_52 (by decide) (by decide)
            have iv_63 : IV z_61 1 6 := iz1 i_62 iv_52 (by decide) (by decide)
            refine k_goto 108 X dX11_missing_156 (by decide) ?_
            refine k_sub [(cAI g a_st 44 d_st), (cO11_i1r1i10r1i2r5i2r12i3r4i2 h0 m_thrown2_1 a_tape m_taped m_size m_at m_end m_token m_whole m_nameSize m_fault m_place m_trouble2_2 a_letters m_failed m_hasHouse a_r a_fresh a_st a_undone a_kept m_undos m_images a_from a_begin a_motor a_change a_startFrame a_changeFrame a_lostAt a_blackAt a_slips a_leftArc a_died a_arcs m_bestSum m_nearest m_nearestTown a_there a_backAt a_sorted a_parts m_seed1 m_darkNow), (cAI g a_r 311 d_r)] [2, 1, 0] rfl (by decide) rfl ?_
            exact ih_44 _ (by omega) z_58 z_61 rfl (iv_w iv_63 (by decide) (by decide))
          · skip
            have iv_64 : IV r_54 1 1 := iv_neL h_56 iv_55 (show IV 0 0 0 from (by decide)) (by decide)
            refine k_aload_n X dX11_missing_130 2 rfl ?_
            refine k_get (ci := 11) X inlX11 rfl 15 (by decide) dX11_missing_131 mw170 1 rfl rfl ?_
            refine k_bipush (v := 96) X dX11_missing_134 (by decide) ?_
            refine k_iconst (v := 3) X dX11_missing_136 (by decide) ?_
            refine k_iload X dX11_missing_137 0 rfl ?_
            refine k_imul X dX11_missing_139 ?_
            refine k_nm (fun z_65 ez_65 => ?_)
            have i_66 : z_65.toInt = 3 * u_40.toInt := in_mul ez_65 (by decide) (by decide) iv_52 (by decide) (by decide)
            have iv_67 : IV z_65 0 15 := iz4 i_66 iv_52 (by decide) (by decide) (by decide)
            refine k_iadd X dX11_missing_140 ?_
            refine k_nm (fun z_68 ez_68 => ?_)
            have i_69 : z_68.toInt = 96 + z_65.toInt := in_add ez_68 (show IV 96 96 96 from (by decide)) iv_67 (by decide) (by decide)
            have iv_70 : IV z_68 96 111 := iz2 i_69 iv_67 (by decide) (by decide)
            refine k_iald X dX11_missing_141 0 rfl (iv_in iv_70 (by decide) (by decide)) ?_
            refine k_nm (fun z_71 ez_71 => ?_)
            have i_72 : z_68.toInt = 96 + 3 * u_40.toInt := by omega
            have iv_73 : IV z_71 0 7 := rb_96_3 ez_71 hp_d_r i_72 (iv_w iv_52 (by decide) (by decide))
            refine k_iload_n X dX11_missing_142 3 rfl ?_
            refine k_ic_ne 150 X dX11_missing_143 (by decide) (fun h_74 => ?_) (fun h_74 => ?_)
            · skip
              refine k_iconst (v := 0) X dX11_missing_150 (by decide) ?_
              refine k_isub X dX11_missing_151 ?_
              refine k_nm (fun z_75 ez_75 => ?_)
              have i_76 : z_75.toInt = u_39.toInt - 0 := in_sub ez_75 (iv_any u_39) (show IV 0 0 0 from (by decide)) (by decide) (by decide)
              have iv_77 : IV z_75 (-2147483648) 2147483647 := by have := (iv_any u_39); have := (show IV 0 0 0 from (by decide)); rw [IV, i_76]; omega
              refine k_istore_n [(3, .int z_75), (4, .int u_40), (0, .ref h0), (1, .int p0), (2, .int p1)] X dX11_missing_152 (by decide) rfl ?_
              obtain ⟨z_78, ez_78⟩ : ∃ y : Int32, u_40 + Int32.ofInt 1 = y := ⟨_, rfl⟩
              refine k_iinc z_78 [(4, .int z_78), (3, .int z_75), (0, .ref h0), (1, .int p0), (2, .int p1)] 1 X dX11_missing_153 rfl ez_78 (by decide) rfl ?_
              have i_79 : z_78.toInt = u_40.toInt + 1 := in_inc ez_78 (by decide) iv_52 (by decide) (by decide)
              have iv_80 : IV z_78 1 6 := iz1 i_79 iv_52 (by decide) (by decide)
              refine k_goto 108 X dX11_missing_156 (by decide) ?_
              refine k_sub [(cAI g a_st 44 d_st), (cO11_i1r1i10r1i2r5i2r12i3r4i2 h0 m_thrown2_1 a_tape m_taped m_size m_at m_end m_token m_whole m_nameSize m_fault m_place m_trouble2_2 a_letters m_failed m_hasHouse a_r a_fresh a_st a_undone a_kept m_undos m_images a_from a_begin a_motor a_change a_startFrame a_changeFrame a_lostAt a_blackAt a_slips a_leftArc a_died a_arcs m_bestSum m_nearest m_nearestTown a_there a_backAt a_sorted a_parts m_seed1 m_darkNow), (cAI g a_r 311 d_r)] [2, 1, 0] rfl (by decide) rfl ?_
              exact ih_44 _ (by omega) z_75 z_78 rfl (iv_w iv_80 (by decide) (by decide))
            · skip
              refine k_iconst (v := 2) X dX11_missing_146 (by decide) ?_
              refine k_goto 151 X dX11_missing_147 (by decide) ?_
              refine k_isub X dX11_missing_151 ?_
              refine k_nm (fun z_81 ez_81 => ?_)
              refine k_istore_n [(3, .int z_81), (4, .int u_40), (0, .ref h0), (1, .int p0), (2, .int p1)] X dX11_missing_152 (by decide) rfl ?_
              obtain ⟨z_83, ez_83⟩ : ∃ y : Int32, u_40 + Int32.ofInt 1 = y := ⟨_, rfl⟩
              refine k_iinc z_83 [(4, .int z_83), (3, .int z_81), (0, .ref h0), (1, .int p0), (2, .int p1)] 1 X dX11_missing_153 rfl ez_83 (by decide) rfl ?_
              have i_84 : z_83.toInt = u_40.toInt + 1 := in_inc ez_83 (by decide) iv_52 (by decide) (by decide)
              have iv_85 : IV z_83 1 6 := iz1 i_84 iv_52 (by decide) (by decide)
              refine k_goto 108 X dX11_missing_156 (by decide) ?_
              refine k_sub [(cAI g a_st 44 d_st), (cO11_i1r1i10r1i2r5i2r12i3r4i2 h0 m_thrown2_1 a_tape m_taped m_size m_at m_end m_token m_whole m_nameSize m_fault m_place m_trouble2_2 a_letters m_failed m_hasHouse a_r a_fresh a_st a_undone a_kept m_undos m_images a_from a_begin a_motor a_change a_startFrame a_changeFrame a_lostAt a_blackAt a_slips a_leftArc a_died a_arcs m_bestSum m_nearest m_nearestTown a_there a_backAt a_sorted a_parts m_seed1 m_darkNow), (cAI g a_r 311 d_r)] [2, 1, 0] rfl (by decide) rfl ?_
              exact ih_44 _ (by omega) z_81 z_83 rfl (iv_w iv_85 (by decide) (by decide))
      · skip
        have j_86 : u_29.toInt < z_34.toInt := iv_nle h_37
        have iv_87 : IV u_29 0 7 := iv_ltL (iv_nle h_37) hv_30 iv_36 (by decide)
        have iv_88 : IV z_34 1 8 := iv_ltR (iv_nle h_37) hv_30 iv_36 (by decide)
        refine k_iload_n X dX11_missing_62 1 rfl ?_
        refine k_aload_n X dX11_missing_63 2 rfl ?_
        refine k_get (ci := 11) X inlX11 rfl 15 (by decide) dX11_missing_64 mw170 1 rfl rfl ?_
        refine k_bipush (v := 80) X dX11_missing_67 (by decide) ?_
        refine k_iconst (v := 2) X dX11_missing_69 (by decide) ?_
        refine k_iload X dX11_missing_70 0 rfl ?_
        refine k_imul X dX11_missing_72 ?_
        refine k_nm (fun z_89 ez_89 => ?_)
        have i_90 : z_89.toInt = 2 * u_29.toInt := in_mul ez_89 (by decide) (by decide) iv_87 (by decide) (by decide)
        have iv_91 : IV z_89 0 14 := iz4 i_90 iv_87 (by decide) (by decide) (by decide)
        refine k_iadd X dX11_missing_73 ?_
        refine k_nm (fun z_92 ez_92 => ?_)
        have i_93 : z_92.toInt = 80 + z_89.toInt := in_add ez_92 (show IV 80 80 80 from (by decide)) iv_91 (by decide) (by decide)
        have iv_94 : IV z_92 80 94 := iz2 i_93 iv_91 (by decide) (by decide)
        refine k_iald X dX11_missing_74 2 rfl (iv_in iv_94 (by decide) (by decide)) ?_
        refine k_nm (fun z_95 ez_95 => ?_)
        have i_96 : z_92.toInt = 80 + 2 * u_29.toInt := by omega
        have iv_97 : IV z_95 0 7 := rb_80_2 ez_95 hp_d_r i_96 (iv_w iv_87 (by decide) (by decide))
        refine k_iload_n X dX11_missing_75 3 rfl ?_
        refine k_ic_ne 96 X dX11_missing_76 (by decide) (fun h_98 => ?_) (fun h_98 => ?_)
        · skip
          refine k_iconst (v := 0) X dX11_missing_96 (by decide) ?_
          refine k_isub X dX11_missing_97 ?_
          refine k_nm (fun z_99 ez_99 => ?_)
          have i_100 : z_99.toInt = u_28.toInt - 0 := in_sub ez_99 (iv_any u_28) (show IV 0 0 0 from (by decide)) (by decide) (by decide)
          have iv_101 : IV z_99 (-2147483648) 2147483647 := by have := (iv_any u_28); have := (show IV 0 0 0 from (by decide)); rw [IV, i_100]; omega
          refine k_istore_n [(3, .int z_99), (4, .int u_29), (0, .ref h0), (1, .int p0), (2, .int p1)] X dX11_missing_98 (by decide) rfl ?_
          obtain ⟨z_102, ez_102⟩ : ∃ y : Int32, u_29 + Int32.ofInt 1 = y := ⟨_, rfl⟩
          refine k_iinc z_102 [(4, .int z_102), (3, .int z_99), (0, .ref h0), (1, .int p0), (2, .int p1)] 1 X dX11_missing_99 rfl ez_102 (by decide) rfl ?_
          have i_103 : z_102.toInt = u_29.toInt + 1 := in_inc ez_102 (by decide) iv_87 (by decide) (by decide)
          have iv_104 : IV z_102 1 8 := iz1 i_103 iv_87 (by decide) (by decide)
          refine k_goto 50 X dX11_missing_102 (by decide) ?_
          exact ih_33 _ (by omega) z_99 z_102 rfl (iv_w iv_104 (by decide) (by decide))
        · skip
          refine k_aload_n X dX11_missing_79 2 rfl ?_
          refine k_get (ci := 11) X inlX11 rfl 15 (by decide) dX11_missing_80 mw170 1 rfl rfl ?_
          refine k_bipush (v := 80) X dX11_missing_83 (by decide) ?_
          refine k_iconst (v := 2) X dX11_missing_85 (by decide) ?_
          refine k_iload X dX11_missing_86 0 rfl ?_
          refine k_imul X dX11_missing_88 ?_
          refine k_to z_89 ez_89.symm ?_
          refine k_iadd X dX11_missing_89 ?_
          refine k_to z_92 ez_92.symm ?_
          refine k_iconst (v := 1) X dX11_missing_90 (by decide) ?_
          refine k_iadd X dX11_missing_91 ?_
          refine k_nm (fun z_105 ez_105 => ?_)
          have i_106 : z_105.toInt = z_92.toInt + 1 := in_add ez_105 iv_94 (show IV 1 1 1 from (by decide)) (by decide) (by decide)
          have iv_107 : IV z_105 81 95 := iz1 i_106 iv_94 (by decide) (by decide)
          refine k_iald X dX11_missing_92 2 rfl (iv_in iv_107 (by decide) (by decide)) ?_
          refine k_nm (fun z_108 ez_108 => ?_)
          refine k_goto 97 X dX11_missing_93 (by decide) ?_
          refine k_isub X dX11_missing_97 ?_
          refine k_nm (fun z_109 ez_109 => ?_)
          refine k_istore_n [(3, .int z_109), (4, .int u_29), (0, .ref h0), (1, .int p0), (2, .int p1)] X dX11_missing_98 (by decide) rfl ?_
          obtain ⟨z_111, ez_111⟩ : ∃ y : Int32, u_29 + Int32.ofInt 1 = y := ⟨_, rfl⟩
          refine k_iinc z_111 [(4, .int z_111), (3, .int z_109), (0, .ref h0), (1, .int p0), (2, .int p1)] 1 X dX11_missing_99 rfl ez_111 (by decide) rfl ?_
          have i_112 : z_111.toInt = u_29.toInt + 1 := in_inc ez_111 (by decide) iv_87 (by decide) (by decide)
          have iv_113 : IV z_111 1 8 := iz1 i_112 iv_87 (by decide) (by decide)
          refine k_goto 50 X dX11_missing_102 (by decide) ?_
          exact ih_33 _ (by omega) z_109 z_111 rfl (iv_w iv_113 (by decide) (by decide))
    · skip
      have iv_114 : IV p1 0 0 := iv_meet (iv_any p1) (iv_e h_27 (show IV 0 0 0 from (by decide))) (by decide) (by decide)
      refine k_iload_n X dX11_missing_45 0 rfl ?_
      exact k_iret X hr dX11_missing_46 (Nat.le_of_ble_eq_true rfl) (Nat.le_of_ble_eq_true rfl) [1, 2, 0] (by decide) rfl rfl ⟨m_thrown2_1, m_trouble2_2, rfl⟩
  · skip
    have iv_115 : IV r_4 0 0 := iv_meet iv_5 (iv_e h_7 (show IV 0 0 0 from (by decide))) (by decide) (by decide)
    refine k_aload_n X dX11_missing_12 0 rfl ?_
    refine k_iconst (v := 1) X dX11_missing_13 (by decide) ?_
    refine k_callVI (n := 1) (As := [.int 1]) (st := []) X [(cO11_i1r1i10r1i2r5i2r12i3r4i2 h0 m_thrown2_1 a_tape m_taped m_size m_at m_end m_token m_whole m_nameSize m_fault m_place m_trouble2_2 a_letters m_failed m_hasHouse a_r a_fresh a_st a_undone a_kept m_undos m_images a_from a_begin a_motor a_change a_startFrame a_changeFrame a_lostAt a_blackAt a_slips a_leftArc a_died a_arcs m_bestSum m_nearest m_nearestTown a_there a_backAt a_sorted a_parts m_seed1 m_darkNow)] [(cAI g a_st 44 d_st), (cAI g a_r 311 d_r)] [1] [0, 2] (m_no l g h0 1 m_thrown2_1 a_tape m_taped m_size m_at m_end m_token m_whole m_nameSize m_fault m_place m_trouble2_2 a_letters m_failed m_hasHouse a_r a_fresh a_st a_undone a_kept m_undos m_images a_from a_begin a_motor a_change a_startFrame a_changeFrame a_lostAt a_blackAt a_slips a_leftArc a_died a_arcs m_bestSum m_nearest m_nearestTown a_there a_backAt a_sorted a_parts m_seed1 m_darkNow) dX11_missing_14 mw485 mw486 mw487 mw5 mw488 rfl 11 rfl rfl 0 _ rfl yk_yX11_no_1 rfl (Nat.le_of_ble_eq_true rfl) (Nat.le_of_ble_eq_true rfl) (Nat.le_of_ble_eq_true rfl) (Nat.le_of_ble_eq_true rfl) (Nat.le_of_ble_eq_true rfl) rfl rfl (by decide) rfl (by decide) (by decide) ?_
    rintro r_117 w ⟨m_trouble2_116, iv_118, rfl⟩
    refine k_ws [(cAI g a_st 44 d_st), (cAI g a_r 311 d_r), (cO11_i1r1i10r1i2r5i2r12i3r4i2 h0 m_thrown2_1 a_tape m_taped m_size m_at m_end m_token m_whole m_nameSize m_fault m_place m_trouble2_116 a_letters m_failed m_hasHouse a_r a_fresh a_st a_undone a_kept m_undos m_images a_from a_begin a_motor a_change a_startFrame a_changeFrame a_lostAt a_blackAt a_slips a_leftArc a_died a_arcs m_bestSum m_nearest m_nearestTown a_there a_backAt a_sorted a_parts m_seed1 m_darkNow)] rfl ?_
    exact k_iret X hr dX11_missing_17 (Nat.le_of_ble_eq_true rfl) (Nat.le_of_ble_eq_true rfl) [2, 1, 0] (by decide) rfl rfl ⟨m_thrown2_1, m_trouble2_116, rfl⟩

theorem dX11_words_0 : decode cX11_words 0 = .ok (.aload_n 0, 1) := dk_42 rfl
theorem dX11_words_1 : decode cX11_words 1 = .ok (.invokevirtual 200, 3) := dk_182 rfl rfl rfl rfl
theorem dX11_words_4 : decode cX11_words 4 = .ok (.aload_n 0, 1) := dk_42 rfl
theorem dX11_words_5 : decode cX11_words 5 = .ok (.iload_n 1, 1) := dk_27 rfl
theorem dX11_words_6 : decode cX11_words 6 = .ok (.invokevirtual 327, 3) := dk_182 rfl rfl rfl rfl
theorem dX11_words_9 : decode cX11_words 9 = .ok (.ifCond .ne 9, 3) := dk_154 rfl rfl rfl (by decide)
theorem dX11_words_12 : decode cX11_words 12 = .ok (.aload_n 0, 1) := dk_42 rfl
theorem dX11_words_13 : decode cX11_words 13 = .ok (.iconst 1, 1) := dk_4 rfl
theorem dX11_words_14 : decode cX11_words 14 = .ok (.invokevirtual 203, 3) := dk_182 rfl rfl rfl rfl
theorem dX11_words_17 : decode cX11_words 17 = .ok (.ireturn, 1) := dk_172 rfl
theorem dX11_words_18 : decode cX11_words 18 = .ok (.iconst 0, 1) := dk_3 rfl
theorem dX11_words_19 : decode cX11_words 19 = .ok (.istore_n 2, 1) := dk_61 rfl
theorem dX11_words_20 : decode cX11_words 20 = .ok (.iconst 0, 1) := dk_3 rfl
theorem dX11_words_21 : decode cX11_words 21 = .ok (.istore_n 3, 1) := dk_62 rfl
theorem dX11_words_22 : decode cX11_words 22 = .ok (.iload_n 3, 1) := dk_29 rfl
theorem dX11_words_23 : decode cX11_words 23 = .ok (.aload_n 0, 1) := dk_42 rfl
theorem dX11_words_24 : decode cX11_words 24 = .ok (.getfield 20, 3) := dk_180 rfl rfl rfl rfl
theorem dX11_words_27 : decode cX11_words 27 = .ok (.bipush 9, 2) := dk_16 rfl rfl (by decide)
theorem dX11_words_29 : decode cX11_words 29 = .ok (.iaload, 1) := dk_46 rfl
theorem dX11_words_30 : decode cX11_words 30 = .ok (.if_icmp .ge 50, 3) := dk_162 rfl rfl rfl (by decide)
theorem dX11_words_33 : decode cX11_words 33 = .ok (.iload_n 2, 1) := dk_28 rfl
theorem dX11_words_34 : decode cX11_words 34 = .ok (.aload_n 0, 1) := dk_42 rfl
theorem dX11_words_35 : decode cX11_words 35 = .ok (.getfield 20, 3) := dk_180 rfl rfl rfl rfl
theorem dX11_words_38 : decode cX11_words 38 = .ok (.bipush 80, 2) := dk_16 rfl rfl (by decide)
theorem dX11_words_40 : decode cX11_words 40 = .ok (.iconst 2, 1) := dk_5 rfl
theorem dX11_words_41 : decode cX11_words 41 = .ok (.iload_n 3, 1) := dk_29 rfl
theorem dX11_words_42 : decode cX11_words 42 = .ok (.imul, 1) := dk_104 rfl
theorem dX11_words_43 : decode cX11_words 43 = .ok (.iadd, 1) := dk_96 rfl
theorem dX11_words_44 : decode cX11_words 44 = .ok (.iaload, 1) := dk_46 rfl
theorem dX11_words_45 : decode cX11_words 45 = .ok (.iload_n 1, 1) := dk_27 rfl
theorem dX11_words_46 : decode cX11_words 46 = .ok (.if_icmp .ne 25, 3) := dk_160 rfl rfl rfl (by decide)
theorem dX11_words_49 : decode cX11_words 49 = .ok (.aload_n 0, 1) := dk_42 rfl
theorem dX11_words_50 : decode cX11_words 50 = .ok (.getfield 20, 3) := dk_180 rfl rfl rfl rfl
theorem dX11_words_53 : decode cX11_words 53 = .ok (.bipush 80, 2) := dk_16 rfl rfl (by decide)
theorem dX11_words_55 : decode cX11_words 55 = .ok (.iconst 2, 1) := dk_5 rfl
theorem dX11_words_56 : decode cX11_words 56 = .ok (.iload_n 3, 1) := dk_29 rfl
theorem dX11_words_57 : decode cX11_words 57 = .ok (.imul, 1) := dk_104 rfl
theorem dX11_words_58 : decode cX11_words 58 = .ok (.iadd, 1) := dk_96 rfl
theorem dX11_words_59 : decode cX11_words 59 = .ok (.iconst 1, 1) := dk_4 rfl
theorem dX11_words_60 : decode cX11_words 60 = .ok (.iadd, 1) := dk_96 rfl
theorem dX11_words_61 : decode cX11_words 61 = .ok (.iaload, 1) := dk_46 rfl
theorem dX11_words_62 : decode cX11_words 62 = .ok (.bipush 24, 2) := dk_16 rfl rfl (by decide)
theorem dX11_words_64 : decode cX11_words 64 = .ok (.if_icmp .lt 7, 3) := dk_161 rfl rfl rfl (by decide)
theorem dX11_words_67 : decode cX11_words 67 = .ok (.iconst 1, 1) := dk_4 rfl
theorem dX11_words_68 : decode cX11_words 68 = .ok (.goto 4, 3) := dk_167 rfl rfl rfl (by decide)
theorem dX11_words_71 : decode cX11_words 71 = .ok (.iconst 0, 1) := dk_3 rfl
theorem dX11_words_72 : decode cX11_words 72 = .ok (.iadd, 1) := dk_96 rfl
theorem dX11_words_73 : decode cX11_words 73 = .ok (.istore_n 2, 1) := dk_61 rfl
theorem dX11_words_74 : decode cX11_words 74 = .ok (.iinc 3 1, 3) := dk_132 rfl rfl rfl rfl (by decide)
theorem dX11_words_77 : decode cX11_words 77 = .ok (.goto (-55), 3) := dk_167 rfl rfl rfl (by decide)
theorem dX11_words_80 : decode cX11_words 80 = .ok (.iload_n 2, 1) := dk_28 rfl
theorem dX11_words_81 : decode cX11_words 81 = .ok (.ireturn, 1) := dk_172 rfl
set_option maxHeartbeats 4000000 in
set_option maxRecDepth 100000 in
theorem m_words (l : Launch) (g : Gx) (h0 : Nat) (p0 : Int32) (m_thrown : Int32) (a_tape : Nat) (m_taped : Int32) (m_size : Int32) (m_at : Int32) (m_end : Int32) (m_token : Int32) (m_whole : Int32) (m_nameSize : Int32) (m_fault : Int32) (m_place : Int32) (m_trouble : Int32) (a_letters : Nat) (m_failed : Int32) (m_hasHouse : Int32) (a_r : Nat) (a_fresh : Nat) (a_st : Nat) (a_undone : Nat) (a_kept : Nat) (m_undos : Int32) (m_images : Int32) (a_from : Nat) (a_begin : Nat) (a_motor : Nat) (a_change : Nat) (a_startFrame : Nat) (a_changeFrame : Nat) (a_lostAt : Nat) (a_blackAt : Nat) (a_slips : Nat) (a_leftArc : Nat) (a_died : Nat) (a_arcs : Nat) (m_bestSum : Int32) (m_nearest : Int32) (m_nearestTown : Int32) (a_there : Nat) (a_backAt : Nat) (a_sorted : Nat) (a_parts : Nat) (m_seed1 : Int32) (m_darkNow : Int32) (d_r : Nat → Int32) (hv_m_hasHouse : IV m_hasHouse 0 1) (hp_d_r : RInv d_r) : cI l g yX11_words cX11_words 4 (some .int) 2 43 0 0 [.ref h0, .int p0] [(cO11_i1r1i10r1i2r5i2r12i3r4i2 h0 m_thrown a_tape m_taped m_size m_at m_end m_token m_whole m_nameSize m_fault m_place m_trouble a_letters m_failed m_hasHouse a_r a_fresh a_st a_undone a_kept m_undos m_images a_from a_begin a_motor a_change a_startFrame a_changeFrame a_lostAt a_blackAt a_slips a_leftArc a_died a_arcs m_bestSum m_nearest m_nearestTown a_there a_backAt a_sorted a_parts m_seed1 m_darkNow), (cAI g a_r 311 d_r)] (fun r w => ∃ (m_thrown2 : Int32) (m_trouble2 : Int32), w = [(cO11_i1r1i10r1i2r5i2r12i3r4i2 h0 m_thrown2 a_tape m_taped m_size m_at m_end m_token m_whole m_nameSize m_fault m_place m_trouble2 a_letters m_failed m_hasHouse a_r a_fresh a_st a_undone a_kept m_undos m_images a_from a_begin a_motor a_change a_startFrame a_changeFrame a_lostAt a_blackAt a_slips a_leftArc a_died a_arcs m_bestSum m_nearest m_nearestTown a_there a_backAt a_sorted a_parts m_seed1 m_darkNow), (cAI g a_r 311 d_r)]) := by
  refine cI.of (by decide) (Nat.le_of_ble_eq_true rfl) ?_
  intro p e s m args below meth c A X hr hi
  refine k_lveq [(0, .ref h0), (1, .int p0)] rfl ?_
  refine k_aload_n X dX11_words_0 0 rfl ?_
  refine k_callVV (n := 0) (As := []) (st := []) X [(cO11_i1r1i10r1i2r5i2r12i3r4i2 h0 m_thrown a_tape m_taped m_size m_at m_end m_token m_whole m_nameSize m_fault m_place m_trouble a_letters m_failed m_hasHouse a_r a_fresh a_st a_undone a_kept m_undos m_images a_from a_begin a_motor a_change a_startFrame a_changeFrame a_lostAt a_blackAt a_slips a_leftArc a_died a_arcs m_bestSum m_nearest m_nearestTown a_there a_backAt a_sorted a_parts m_seed1 m_darkNow)] [(cAI g a_r 311 d_r)] [0] [1] (m_good l g h0 m_thrown a_tape m_taped m_size m_at m_end m_token m_whole m_nameSize m_fault m_place m_trouble a_letters m_failed m_hasHouse a_r a_fresh a_st a_undone a_kept m_undos m_images a_from a_begin a_motor a_change a_startFrame a_changeFrame a_lostAt a_blackAt a_slips a_leftArc a_died a_arcs m_bestSum m_nearest m_nearestTown a_there a_backAt a_sorted a_parts m_seed1 m_darkNow) dX11_words_1 mw477 mw478 mw479 mw5 mw480 rfl 11 rfl rfl 0 _ rfl yk_yX11_good_0 rfl (Nat.le_of_ble_eq_true rfl) (Nat.le_of_ble_eq_true rfl) (Nat.le_of_ble_eq_true rfl) (Nat.le_of_ble_eq_true rfl) (Nat.le_of_ble_eq_true rfl) rfl rfl (by decide) rfl (by decide) (by decide) ?_
  rintro w ⟨m_thrown2_1, m_trouble2_2, rfl⟩
  refine k_ws [(cAI g a_r 311 d_r), (cO11_i1r1i10r1i2r5i2r12i3r4i2 h0 m_thrown2_1 a_tape m_taped m_size m_at m_end m_token m_whole m_nameSize m_fault m_place m_trouble2_2 a_letters m_failed m_hasHouse a_r a_fresh a_st a_undone a_kept m_undos m_images a_from a_begin a_motor a_change a_startFrame a_changeFrame a_lostAt a_blackAt a_slips a_leftArc a_died a_arcs m_bestSum m_nearest m_nearestTown a_there a_backAt a_sorted a_parts m_seed1 m_darkNow)] rfl ?_
  refine k_aload_n X dX11_words_4 0 rfl ?_
  refine k_iload_n X dX11_words_5 1 rfl ?_
  refine k_callVI (n := 1) (As := [.int p0]) (st := []) X [(cO11_i1r1i10r1i2r5i2r12i3r4i2 h0 m_thrown2_1 a_tape m_taped m_size m_at m_end m_token m_whole m_nameSize m_fault m_place m_trouble2_2 a_letters m_failed m_hasHouse a_r a_fresh a_st a_undone a_kept m_undos m_images a_from a_begin a_motor a_change a_startFrame a_changeFrame a_lostAt a_blackAt a_slips a_leftArc a_died a_arcs m_bestSum m_nearest m_nearestTown a_there a_backAt a_sorted a_parts m_seed1 m_darkNow), (cAI g a_r 311 d_r)] [] [1, 0] [] (m_isReel l g h0 p0 m_thrown2_1 a_tape m_taped m_size m_at m_end m_token m_whole m_nameSize m_fault m_place m_trouble2_2 a_letters m_failed m_hasHouse a_r a_fresh a_st a_undone a_kept m_undos m_images a_from a_begin a_motor a_change a_startFrame a_changeFrame a_lostAt a_blackAt a_slips a_leftArc a_died a_arcs m_bestSum m_nearest m_nearestTown a_there a_backAt a_sorted a_parts m_seed1 m_darkNow d_r (iv_w hv_m_hasHouse (by decide) (by decide)) hp_d_r) dX11_words_6 mw670 mw671 mw672 mw5 mw673 rfl 11 rfl rfl 0 _ rfl yk_yX11_isReel_1 rfl (Nat.le_of_ble_eq_true rfl) (Nat.le_of_ble_eq_true rfl) (Nat.le_of_ble_eq_true rfl) (Nat.le_of_ble_eq_true rfl) (Nat.le_of_ble_eq_true rfl) rfl rfl (by decide) rfl (by decide) (by decide) ?_
  rintro r_4 w ⟨iv_5, hk_6, rfl⟩
  refine k_ws [(cO11_i1r1i10r1i2r5i2r12i3r4i2 h0 m_thrown2_1 a_tape m_taped m_size m_at m_end m_token m_whole m_nameSize m_fault m_place m_trouble2_2 a_letters m_failed m_hasHouse a_r a_fresh a_st a_undone a_kept m_undos m_images a_from a_begin a_motor a_change a_startFrame a_changeFrame a_lostAt a_blackAt a_slips a_leftArc a_died a_arcs m_bestSum m_nearest m_nearestTown a_there a_backAt a_sorted a_parts m_seed1 m_darkNow), (cAI g a_r 311 d_r)] rfl ?_
  refine k_if_ne 18 X dX11_words_9 (by decide) (fun h_7 => ?_) (fun h_7 => ?_)
  · skip
    have hc_8 := hk_6.resolve_left h_7
    have iv_9 : IV p0 0 7 := iv_meet (iv_any p0) hc_8 (by decide) (by decide)
    have iv_10 : IV r_4 1 1 := iv_neL h_7 iv_5 (show IV 0 0 0 from (by decide)) (by decide)
    refine k_iconst (v := 0) X dX11_words_18 (by decide) ?_
    refine k_istore_n [(2, .int 0), (0, .ref h0), (1, .int p0)] X dX11_words_19 (by decide) rfl ?_
    refine k_iconst (v := 0) X dX11_words_20 (by decide) ?_
    refine k_istore_n [(3, .int 0), (2, .int 0), (0, .ref h0), (1, .int p0)] X dX11_words_21 (by decide) rfl ?_
    refine (fun hL : ∀ (nn_14 : Nat) (u_11 : Int32) (u_12 : Int32), (2147483647 - u_12.toInt).toNat = nn_14 → (IV u_12 0 8) → Wk p l e _ s m args below meth c _ A g _ _ _ [(cO11_i1r1i10r1i2r5i2r12i3r4i2 h0 m_thrown2_1 a_tape m_taped m_size m_at m_end m_token m_whole m_nameSize m_fault m_place m_trouble2_2 a_letters m_failed m_hasHouse a_r a_fresh a_st a_undone a_kept m_undos m_images a_from a_begin a_motor a_change a_startFrame a_changeFrame a_lostAt a_blackAt a_slips a_leftArc a_died a_arcs m_bestSum m_nearest m_nearestTown a_there a_backAt a_sorted a_parts m_seed1 m_darkNow), (cAI g a_r 311 d_r)] [(3, .int u_12), (2, .int u_11), (0, .ref h0), (1, .int p0)] 22 [] => hL _ 0 0 rfl (iv_w (show IV 0 0 0 from (by decide)) (by decide) (by decide))) ?_
    refine fun nn_14 => Nat.strongRecOn nn_14 (fun nn_14 ih_16 => ?_)
    intro u_11 u_12 hm_15 hv_13
    refine k_iload_n X dX11_words_22 0 rfl ?_
    refine k_aload_n X dX11_words_23 2 rfl ?_
    refine k_get (ci := 11) X inlX11 rfl 15 (by decide) dX11_words_24 mw170 0 rfl rfl ?_
    refine k_bipush (v := 9) X dX11_words_27 (by decide) ?_
    refine k_iald X dX11_words_29 1 rfl (by unfold vp_in; decide) ?_
    refine k_nm (fun z_17 ez_17 => ?_)
    have i_18 : z_17.toInt = (d_r 9).toInt := by rw [ez_17]; rfl
    have iv_19 : IV z_17 0 8 := rb_9 ez_17 hp_d_r
    refine k_ic_ge 80 X dX11_words_30 (by decide) (fun h_20 => ?_) (fun h_20 => ?_)
    · skip
      have j_21 : z_17.toInt ≤ u_12.toInt := iv_le h_20
      refine k_iload_n X dX11_words_80 1 rfl ?_
      exact k_iret X hr dX11_words_81 (Nat.le_of_ble_eq_true rfl) (Nat.le_of_ble_eq_true rfl) [0, 1] (by decide) rfl rfl ⟨m_thrown2_1, m_trouble2_2, rfl⟩
    · skip
      have j_22 : u_12.toInt < z_17.toInt := iv_nle h_20
      have iv_23 : IV u_12 0 7 := iv_ltL (iv_nle h_20) hv_13 iv_19 (by decide)
      have iv_24 : IV z_17 1 8 := iv_ltR (iv_nle h_20) hv_13 iv_19 (by decide)
      refine k_iload_n X dX11_words_33 1 rfl ?_
      refine k_aload_n X dX11_words_34 2 rfl ?_
      refine k_get (ci := 11) X inlX11 rfl 15 (by decide) dX11_words_35 mw170 0 rfl rfl ?_
      refine k_bipush (v := 80) X dX11_words_38 (by decide) ?_
      refine k_iconst (v := 2) X dX11_words_40 (by decide) ?_
      refine k_iload_n X dX11_words_41 0 rfl ?_
      refine k_imul X dX11_words_42 ?_
      refine k_nm (fun z_25 ez_25 => ?_)
      have i_26 : z_25.toInt = 2 * u_12.toInt := in_mul ez_25 (by decide) (by decide) iv_23 (by decide) (by decide)
      have iv_27 : IV z_25 0 14 := iz4 i_26 iv_23 (by decide) (by decide) (by decide)
      refine k_iadd X dX11_words_43 ?_
      refine k_nm (fun z_28 ez_28 => ?_)
      have i_29 : z_28.toInt = 80 + z_25.toInt := in_add ez_28 (show IV 80 80 80 from (by decide)) iv_27 (by decide) (by decide)
      have iv_30 : IV z_28 80 94 := iz2 i_29 iv_27 (by decide) (by decide)
      refine k_iald X dX11_words_44 1 rfl (iv_in iv_30 (by decide) (by decide)) ?_
      refine k_nm (fun z_31 ez_31 => ?_)
      have i_32 : z_28.toInt = 80 + 2 * u_12.toInt := by omega
      have iv_33 : IV z_31 0 7 := rb_80_2 ez_31 hp_d_r i_32 (iv_w iv_23 (by decide) (by decide))
      refine k_iload_n X dX11_words_45 3 rfl ?_
      refine k_ic_ne 71 X dX11_words_46 (by decide) (fun h_34 => ?_) (fun h_34 => ?_)
      · skip
        refine k_iconst (v := 0) X dX11_words_71 (by decide) ?_
        refine k_iadd X dX11_words_72 ?_
        refine k_nm (fun z_35 ez_35 => ?_)
        have i_36 : z_35.toInt = u_11.toInt + 0 := in_add ez_35 (iv_any u_11) (show IV 0 0 0 from (by decide)) (by decide) (by decide)
        have iv_37 : IV z_35 (-2147483648) 2147483647 := by have := (iv_any u_11); have := (show IV 0 0 0 from (by decide)); rw [IV, i_36]; omega
        refine k_istore_n [(2, .int z_35), (3, .int u_12), (0, .ref h0), (1, .int p0)] X dX11_words_73 (by decide) rfl ?_
        obtain ⟨z_38, ez_38⟩ : ∃ y : Int32, u_12 + Int32.ofInt 1 = y := ⟨_, rfl⟩
        refine k_iinc z_38 [(3, .int z_38), (2, .int z_35), (0, .ref h0), (1, .int p0)] 1 X dX11_words_74 rfl ez_38 (by decide) rfl ?_
        have i_39 : z_38.toInt = u_12.toInt + 1 := in_inc ez_38 (by decide) iv_23 (by decide) (by decide)
        have iv_40 : IV z_38 1 8 := iz1 i_39 iv_23 (by decide) (by decide)
        refine k_goto 22 X dX11_words_77 (by decide) ?_
        exact ih_16 _ (by omega) z_35 z_38 rfl (iv_w iv_40 (by decide) (by decide))
      · skip
        refine k_aload_n X dX11_words_49 2 rfl ?_
        refine k_get (ci := 11) X inlX11 rfl 15 (by decide) dX11_words_50 mw170 0 rfl rfl ?_
        refine k_bipush (v := 80) X dX11_words_53 (by decide) ?_
        refine k_iconst (v := 2) X dX11_words_55 (by decide) ?_
        refine k_iload_n X dX11_words_56 0 rfl ?_
        refine k_imul X dX11_words_57 ?_
        refine k_to z_25 ez_25.symm ?_
        refine k_iadd X dX11_words_58 ?_
        refine k_to z_28 ez_28.symm ?_
        refine k_iconst (v := 1) X dX11_words_59 (by decide) ?_
        refine k_iadd X dX11_words_60 ?_
        refine k_nm (fun z_41 ez_41 => ?_)
        have i_42 : z_41.toInt = z_28.toInt + 1 := in_add ez_41 iv_30 (show IV 1 1 1 from (by decide)) (by decide) (by decide)
        have iv_43 : IV z_41 81 95 := iz1 i_42 iv_30 (by decide) (by decide)
        refine k_iald X dX11_words_61 1 rfl (iv_in iv_43 (by decide) (by decide)) ?_
        refine k_nm (fun z_44 ez_44 => ?_)
        refine k_bipush (v := 24) X dX11_words_62 (by decide) ?_
        refine k_ic_lt 71 X dX11_words_64 (by decide) (fun h_45 => ?_) (fun h_45 => ?_)
        · skip
          have j_46 : z_44.toInt < 24 := iv_lt h_45
          have iv_47 : IV z_44 (-2147483648) 23 := iv_ltL (iv_lt h_45) (iv_any z_44) (show IV 24 24 24 from (by decide)) (by decide)
          refine k_iconst (v := 0) X dX11_words_71 (by decide) ?_
          refine k_iadd X dX11_words_72 ?_
          refine k_nm (fun z_48 ez_48 => ?_)
          have i_49 : z_48.toInt = u_11.toInt + 0 := in_add ez_48 (iv_any u_11) (show IV 0 0 0 from (by decide)) (by decide) (by decide)
          have iv_50 : IV z_48 (-2147483648) 2147483647 := by have := (iv_any u_11); have := (show IV 0 0 0 from (by decide)); rw [IV, i_49]; omega
          refine k_istore_n [(2, .int z_48), (3, .int u_12), (0, .ref h0), (1, .int p0)] X dX11_words_73 (by decide) rfl ?_
          obtain ⟨z_51, ez_51⟩ : ∃ y : Int32, u_12 + Int32.ofInt 1 = y := ⟨_, rfl⟩
          refine k_iinc z_51 [(3, .int z_51), (2, .int z_48), (0, .ref h0), (1, .int p0)] 1 X dX11_words_74 rfl ez_51 (by decide) rfl ?_
          have i_52 : z_51.toInt = u_12.toInt + 1 := in_inc ez_51 (by decide) iv_23 (by decide) (by decide)
          have iv_53 : IV z_51 1 8 := iz1 i_52 iv_23 (by decide) (by decide)
          refine k_goto 22 X dX11_words_77 (by decide) ?_
          exact ih_16 _ (by omega) z_48 z_51 rfl (iv_w iv_53 (by decide) (by decide))
        · skip
          have j_54 : 24 ≤ z_44.toInt := iv_nlt h_45
          have iv_55 : IV z_44 24 2147483647 := iv_leR (iv_nlt h_45) (show IV 24 24 24 from (by decide)) (iv_any z_44) (by decide)
          refine k_iconst (v := 1) X dX11_words_67 (by decide) ?_
          refine k_goto 72 X dX11_words_68 (by decide) ?_
          refine k_iadd X dX11_words_72 ?_
          refine k_nm (fun z_56 ez_56 => ?_)
          refine k_istore_n [(2, .int z_56), (3, .int u_12), (0, .ref h0), (1, .int p0)] X dX11_words_73 (by decide) rfl ?_
          obtain ⟨z_58, ez_58⟩ : ∃ y : Int32, u_12 + Int32.ofInt 1 = y := ⟨_, rfl⟩
          refine k_iinc z_58 [(3, .int z_58), (2, .int z_56), (0, .ref h0), (1, .int p0)] 1 X dX11_words_74 rfl ez_58 (by decide) rfl ?_
          have i_59 : z_58.toInt = u_12.toInt + 1 := in_inc ez_58 (by decide) iv_23 (by decide) (by decide)
          have iv_60 : IV z_58 1 8 := iz1 i_59 iv_23 (by decide) (by decide)
          refine k_goto 22 X dX11_words_77 (by decide) ?_
          exact ih_16 _ (by omega) z_56 z_58 rfl (iv_w iv_60 (by decide) (by decide))
  · skip
    have iv_61 : IV r_4 0 0 := iv_meet iv_5 (iv_e h_7 (show IV 0 0 0 from (by decide))) (by decide) (by decide)
    refine k_aload_n X dX11_words_12 0 rfl ?_
    refine k_iconst (v := 1) X dX11_words_13 (by decide) ?_
    refine k_callVI (n := 1) (As := [.int 1]) (st := []) X [(cO11_i1r1i10r1i2r5i2r12i3r4i2 h0 m_thrown2_1 a_tape m_taped m_size m_at m_end m_token m_whole m_nameSize m_fault m_place m_trouble2_2 a_letters m_failed m_hasHouse a_r a_fresh a_st a_undone a_kept m_undos m_images a_from a_begin a_motor a_change a_startFrame a_changeFrame a_lostAt a_blackAt a_slips a_leftArc a_died a_arcs m_bestSum m_nearest m_nearestTown a_there a_backAt a_sorted a_parts m_seed1 m_darkNow)] [(cAI g a_r 311 d_r)] [0] [1] (m_no l g h0 1 m_thrown2_1 a_tape m_taped m_size m_at m_end m_token m_whole m_nameSize m_fault m_place m_trouble2_2 a_letters m_failed m_hasHouse a_r a_fresh a_st a_undone a_kept m_undos m_images a_from a_begin a_motor a_change a_startFrame a_changeFrame a_lostAt a_blackAt a_slips a_leftArc a_died a_arcs m_bestSum m_nearest m_nearestTown a_there a_backAt a_sorted a_parts m_seed1 m_darkNow) dX11_words_14 mw485 mw486 mw487 mw5 mw488 rfl 11 rfl rfl 0 _ rfl yk_yX11_no_1 rfl (Nat.le_of_ble_eq_true rfl) (Nat.le_of_ble_eq_true rfl) (Nat.le_of_ble_eq_true rfl) (Nat.le_of_ble_eq_true rfl) (Nat.le_of_ble_eq_true rfl) rfl rfl (by decide) rfl (by decide) (by decide) ?_
    rintro r_63 w ⟨m_trouble2_62, iv_64, rfl⟩
    refine k_ws [(cAI g a_r 311 d_r), (cO11_i1r1i10r1i2r5i2r12i3r4i2 h0 m_thrown2_1 a_tape m_taped m_size m_at m_end m_token m_whole m_nameSize m_fault m_place m_trouble2_62 a_letters m_failed m_hasHouse a_r a_fresh a_st a_undone a_kept m_undos m_images a_from a_begin a_motor a_change a_startFrame a_changeFrame a_lostAt a_blackAt a_slips a_leftArc a_died a_arcs m_bestSum m_nearest m_nearestTown a_there a_backAt a_sorted a_parts m_seed1 m_darkNow)] rfl ?_
    exact k_iret X hr dX11_words_17 (Nat.le_of_ble_eq_true rfl) (Nat.le_of_ble_eq_true rfl) [1, 0] (by decide) rfl rfl ⟨m_thrown2_1, m_trouble2_62, rfl⟩

theorem dX11_power_0 : decode cX11_power 0 = .ok (.lconst 1, 1) := dk_10 rfl
theorem dX11_power_1 : decode cX11_power 1 = .ok (.lstore_n 2, 1) := dk_65 rfl
theorem dX11_power_2 : decode cX11_power 2 = .ok (.iconst 0, 1) := dk_3 rfl
theorem dX11_power_3 : decode cX11_power 3 = .ok (.istore 4, 2) := dk_54 rfl rfl rfl
theorem dX11_power_5 : decode cX11_power 5 = .ok (.iload 4, 2) := dk_21 rfl rfl rfl
theorem dX11_power_7 : decode cX11_power 7 = .ok (.iload_n 1, 1) := dk_27 rfl
theorem dX11_power_8 : decode cX11_power 8 = .ok (.if_icmp .ge 14, 3) := dk_162 rfl rfl rfl (by decide)
theorem dX11_power_11 : decode cX11_power 11 = .ok (.lload_n 2, 1) := dk_32 rfl
theorem dX11_power_12 : decode cX11_power 12 = .ok (.iload_n 0, 1) := dk_26 rfl
theorem dX11_power_13 : decode cX11_power 13 = .ok (.i2l, 1) := dk_133 rfl
theorem dX11_power_14 : decode cX11_power 14 = .ok (.lmul, 1) := dk_105 rfl
theorem dX11_power_15 : decode cX11_power 15 = .ok (.lstore_n 2, 1) := dk_65 rfl
theorem dX11_power_16 : decode cX11_power 16 = .ok (.iinc 4 1, 3) := dk_132 rfl rfl rfl rfl (by decide)
theorem dX11_power_19 : decode cX11_power 19 = .ok (.goto (-14), 3) := dk_167 rfl rfl rfl (by decide)
theorem dX11_power_22 : decode cX11_power 22 = .ok (.lload_n 2, 1) := dk_32 rfl
theorem dX11_power_23 : decode cX11_power 23 = .ok (.lreturn, 1) := dk_173 rfl
set_option maxHeartbeats 4000000 in
set_option maxRecDepth 100000 in
theorem m_powerH (l : Launch) (g : Gx) (p1 : Int32) (hv_p1 : IV p1 0 8) : cL l g yX11_power cX11_power 5 (some .long) 0 0 0 0 [.int 100, .int p1] [] (fun r w => (r ≠ 0) ∧ w = []) := by
  refine cL.of (by decide) (Nat.le_of_ble_eq_true rfl) ?_
  intro p e s m args below meth c A X hr hi
  refine k_lveq [(0, .int 100), (1, .int p1)] rfl ?_
  refine k_lconst (v := 1) X dX11_power_0 (by decide) ?_
  refine k_lstore_n [(2, .long 1), (0, .int 100), (1, .int p1)] X dX11_power_1 (by decide) rfl ?_
  refine k_iconst (v := 0) X dX11_power_2 (by decide) ?_
  refine k_istore [(4, .int 0), (2, .long 1), (0, .int 100), (1, .int p1)] X dX11_power_3 (by decide) rfl ?_
  refine (fun hL : ∀ (nn_5 : Nat) (u_1 : Int64) (u_2 : Int32), (p1.toInt - u_2.toInt).toNat = nn_5 → (IV u_2 0 8) → (u_1.toInt = 100 ^ u_2.toInt.toNat) → Wk p l e _ s m args below meth c _ A g _ _ _ [] [(4, .int u_2), (2, .long u_1), (0, .int 100), (1, .int p1)] 5 [] => hL _ 1 0 rfl (iv_w (show IV 0 0 0 from (by decide)) (by decide) (by decide)) (by decide)) ?_
  refine fun nn_5 => Nat.strongRecOn nn_5 (fun nn_5 ih_7 => ?_)
  intro u_1 u_2 hm_6 hv_3 hx_4
  refine k_iload X dX11_power_5 0 rfl ?_
  refine k_iload_n X dX11_power_7 3 rfl ?_
  refine k_ic_ge 22 X dX11_power_8 (by decide) (fun h_8 => ?_) (fun h_8 => ?_)
  · skip
    have j_9 : p1.toInt ≤ u_2.toInt := iv_le h_8
    refine k_lload_n X dX11_power_22 1 rfl ?_
    exact k_lret X hr dX11_power_23 (Nat.le_of_ble_eq_true rfl) (Nat.le_of_ble_eq_true rfl) [] (by decide) rfl rfl ⟨(p100n (by assumption)), rfl⟩
  · skip
    have j_10 : u_2.toInt < p1.toInt := iv_nle h_8
    have iv_11 : IV u_2 0 7 := iv_ltL (iv_nle h_8) hv_3 hv_p1 (by decide)
    have iv_12 : IV p1 1 8 := iv_ltR (iv_nle h_8) hv_3 hv_p1 (by decide)
    refine k_lload_n X dX11_power_11 1 rfl ?_
    refine k_iload_n X dX11_power_12 2 rfl ?_
    refine k_i2l X dX11_power_13 ?_
    refine k_toL (100) (by decide) ?_
    refine k_lmul X dX11_power_14 ?_
    refine k_nmL (fun y_13 ey_13 => ?_)
    refine k_lstore_n [(2, .long y_13), (4, .int u_2), (0, .int 100), (1, .int p1)] X dX11_power_15 (by decide) rfl ?_
    obtain ⟨z_14, ez_14⟩ : ∃ y : Int32, u_2 + Int32.ofInt 1 = y := ⟨_, rfl⟩
    refine k_iinc z_14 [(4, .int z_14), (2, .long y_13), (0, .int 100), (1, .int p1)] 1 X dX11_power_16 rfl ez_14 (by decide) rfl ?_
    have i_15 : z_14.toInt = u_2.toInt + 1 := in_inc ez_14 (by decide) iv_11 (by decide) (by decide)
    have iv_16 : IV z_14 1 8 := iz1 i_15 iv_11 (by decide) (by decide)
    refine k_goto 5 X dX11_power_19 (by decide) ?_
    exact ih_7 _ (by omega) y_13 z_14 rfl (iv_w iv_16 (by decide) (by decide)) (p100 (by assumption) (by assumption) (iv_w (by assumption) (by decide) (by decide)) (by assumption))


set_option maxHeartbeats 4000000 in
set_option maxRecDepth 100000 in
theorem m_power (l : Launch) (g : Gx) (p0 : Int32) (p1 : Int32) : cL l g yX11_power cX11_power 5 (some .long) 0 0 0 0 [.int p0, .int p1] [] (fun r w => w = []) := by
  refine cL.of (by decide) (Nat.le_of_ble_eq_true rfl) ?_
  intro p e s m args below meth c A X hr hi
  refine k_lveq [(0, .int p0), (1, .int p1)] rfl ?_
  refine k_lconst (v := 1) X dX11_power_0 (by decide) ?_
  refine k_lstore_n [(2, .long 1), (0, .int p0), (1, .int p1)] X dX11_power_1 (by decide) rfl ?_
  refine k_iconst (v := 0) X dX11_power_2 (by decide) ?_
  refine k_istore [(4, .int 0), (2, .long 1), (0, .int p0), (1, .int p1)] X dX11_power_3 (by decide) rfl ?_
  refine (fun hL : ∀ (nn_4 : Nat) (u_1 : Int64) (u_2 : Int32), (p1.toInt - u_2.toInt).toNat = nn_4 → (IV u_2 0 2147483647) → Wk p l e _ s m args below meth c _ A g _ _ _ [] [(4, .int u_2), (2, .long u_1), (0, .int p0), (1, .int p1)] 5 [] => hL _ 1 0 rfl (iv_w (show IV 0 0 0 from (by decide)) (by decide) (by decide))) ?_
  refine fun nn_4 => Nat.strongRecOn nn_4 (fun nn_4 ih_6 => ?_)
  intro u_1 u_2 hm_5 hv_3
  refine k_iload X dX11_power_5 0 rfl ?_
  refine k_iload_n X dX11_power_7 3 rfl ?_
  refine k_ic_ge 22 X dX11_power_8 (by decide) (fun h_7 => ?_) (fun h_7 => ?_)
  · skip
    have j_8 : p1.toInt ≤ u_2.toInt := iv_le h_7
    refine k_lload_n X dX11_power_22 1 rfl ?_
    exact k_lret X hr dX11_power_23 (Nat.le_of_ble_eq_true rfl) (Nat.le_of_ble_eq_true rfl) [] (by decide) rfl rfl rfl
  · skip
    have j_9 : u_2.toInt < p1.toInt := iv_nle h_7
    have iv_10 : IV u_2 0 2147483646 := iv_ltL (iv_nle h_7) hv_3 (iv_any p1) (by decide)
    have iv_11 : IV p1 1 2147483647 := iv_ltR (iv_nle h_7) hv_3 (iv_any p1) (by decide)
    refine k_lload_n X dX11_power_11 1 rfl ?_
    refine k_iload_n X dX11_power_12 2 rfl ?_
    refine k_i2l X dX11_power_13 ?_
    refine k_nmL (fun y_12 ey_12 => ?_)
    refine k_lmul X dX11_power_14 ?_
    refine k_nmL (fun y_13 ey_13 => ?_)
    refine k_lstore_n [(2, .long y_13), (4, .int u_2), (0, .int p0), (1, .int p1)] X dX11_power_15 (by decide) rfl ?_
    obtain ⟨z_14, ez_14⟩ : ∃ y : Int32, u_2 + Int32.ofInt 1 = y := ⟨_, rfl⟩
    refine k_iinc z_14 [(4, .int z_14), (2, .long y_13), (0, .int p0), (1, .int p1)] 1 X dX11_power_16 rfl ez_14 (by decide) rfl ?_
    have i_15 : z_14.toInt = u_2.toInt + 1 := in_inc ez_14 (by decide) iv_10 (by decide) (by decide)
    have iv_16 : IV z_14 1 2147483647 := iz1 i_15 iv_10 (by decide) (by decide)
    refine k_goto 5 X dX11_power_19 (by decide) ?_
    exact ih_6 _ (by omega) y_13 z_14 rfl (iv_w iv_16 (by decide) (by decide))

theorem dX11_lowest_0 : decode cX11_lowest 0 = .ok (.lload_n 2, 1) := dk_32 rfl
theorem dX11_lowest_1 : decode cX11_lowest 1 = .ok (.lstore 5, 2) := dk_55 rfl rfl rfl
theorem dX11_lowest_3 : decode cX11_lowest 3 = .ok (.lload_n 0, 1) := dk_30 rfl
theorem dX11_lowest_4 : decode cX11_lowest 4 = .ok (.lstore 7, 2) := dk_55 rfl rfl rfl
theorem dX11_lowest_6 : decode cX11_lowest 6 = .ok (.lload 7, 2) := dk_22 rfl rfl rfl
theorem dX11_lowest_8 : decode cX11_lowest 8 = .ok (.lconst 0, 1) := dk_9 rfl
theorem dX11_lowest_9 : decode cX11_lowest 9 = .ok (.lcmp, 1) := dk_148 rfl
theorem dX11_lowest_10 : decode cX11_lowest 10 = .ok (.ifCond .eq 21, 3) := dk_153 rfl rfl rfl (by decide)
theorem dX11_lowest_13 : decode cX11_lowest 13 = .ok (.lload 5, 2) := dk_22 rfl rfl rfl
theorem dX11_lowest_15 : decode cX11_lowest 15 = .ok (.lload 7, 2) := dk_22 rfl rfl rfl
theorem dX11_lowest_17 : decode cX11_lowest 17 = .ok (.lrem, 1) := dk_113 rfl
theorem dX11_lowest_18 : decode cX11_lowest 18 = .ok (.lstore 9, 2) := dk_55 rfl rfl rfl
theorem dX11_lowest_20 : decode cX11_lowest 20 = .ok (.lload 7, 2) := dk_22 rfl rfl rfl
theorem dX11_lowest_22 : decode cX11_lowest 22 = .ok (.lstore 5, 2) := dk_55 rfl rfl rfl
theorem dX11_lowest_24 : decode cX11_lowest 24 = .ok (.lload 9, 2) := dk_22 rfl rfl rfl
theorem dX11_lowest_26 : decode cX11_lowest 26 = .ok (.lstore 7, 2) := dk_55 rfl rfl rfl
theorem dX11_lowest_28 : decode cX11_lowest 28 = .ok (.goto (-22), 3) := dk_167 rfl rfl rfl (by decide)
theorem dX11_lowest_31 : decode cX11_lowest 31 = .ok (.iload 4, 2) := dk_21 rfl rfl rfl
theorem dX11_lowest_33 : decode cX11_lowest 33 = .ok (.ifCond .eq 7, 3) := dk_153 rfl rfl rfl (by decide)
theorem dX11_lowest_36 : decode cX11_lowest 36 = .ok (.lload_n 2, 1) := dk_32 rfl
theorem dX11_lowest_37 : decode cX11_lowest 37 = .ok (.goto 4, 3) := dk_167 rfl rfl rfl (by decide)
theorem dX11_lowest_40 : decode cX11_lowest 40 = .ok (.lload_n 0, 1) := dk_30 rfl
theorem dX11_lowest_41 : decode cX11_lowest 41 = .ok (.lload 5, 2) := dk_22 rfl rfl rfl
theorem dX11_lowest_43 : decode cX11_lowest 43 = .ok (.ldiv, 1) := dk_109 rfl
theorem dX11_lowest_44 : decode cX11_lowest 44 = .ok (.lreturn, 1) := dk_173 rfl
set_option maxHeartbeats 4000000 in
set_option maxRecDepth 100000 in
theorem m_lowest (l : Launch) (g : Gx) (p0 : Int64) (p1 : Int64) (p2 : Int32) (hr_0 : p0 ≠ 0 ∨ p1 ≠ 0) : cL l g yX11_lowest cX11_lowest 11 (some .long) 0 0 0 0 [.long p0, .long p1, .int p2] [] (fun r w => w = []) := by
  refine cL.of (by decide) (Nat.le_of_ble_eq_true rfl) ?_
  intro p e s m args below meth c A X hr hi
  refine k_lveq [(0, .long p0), (2, .long p1), (4, .int p2)] rfl ?_
  refine k_lload_n X dX11_lowest_0 1 rfl ?_
  refine k_lstore [(5, .long p1), (0, .long p0), (2, .long p1), (4, .int p2)] X dX11_lowest_1 (by decide) rfl ?_
  refine k_lload_n X dX11_lowest_3 1 rfl ?_
  refine k_lstore [(7, .long p0), (5, .long p1), (0, .long p0), (2, .long p1), (4, .int p2)] X dX11_lowest_4 (by decide) rfl ?_
  refine (fun hL : ∀ (nn_4 : Nat) (u_1 : Int64) (u_2 : Int64), u_2.toInt.natAbs = nn_4 → (¬ (u_1 = 0 ∧ u_2 = 0)) → Wk p l e _ s m args below meth c _ A g _ _ _ [] [(7, .long u_2), (5, .long u_1), (0, .long p0), (2, .long p1), (4, .int p2)] 6 [] => hL _ p1 p0 rfl (fun q => hr_0.elim (fun h => h q.2) (fun h => h q.1))) ?_
  refine fun nn_4 => Nat.strongRecOn nn_4 (fun nn_4 ih_6 => ?_)
  intro u_1 u_2 hm_5 hx_3
  refine k_lload X dX11_lowest_6 0 rfl ?_
  refine k_lconst (v := 0) X dX11_lowest_8 (by decide) ?_
  refine k_lcmp X dX11_lowest_9 ?_
  refine k_nm (fun z_7 ez_7 => ?_)
  refine k_if_eq 31 X dX11_lowest_10 (by decide) (fun h_8 => ?_) (fun h_8 => ?_)
  · skip
    have iv_9 : IV z_7 0 0 := iv_meet (iv_any z_7) (iv_e h_8 (show IV 0 0 0 from (by decide))) (by decide) (by decide)
    refine k_iload X dX11_lowest_31 4 rfl ?_
    refine k_if_eq 40 X dX11_lowest_33 (by decide) (fun h_10 => ?_) (fun h_10 => ?_)
    · skip
      have iv_11 : IV p2 0 0 := iv_meet (iv_any p2) (iv_e h_10 (show IV 0 0 0 from (by decide))) (by decide) (by decide)
      refine k_lload_n X dX11_lowest_40 2 rfl ?_
      refine k_lload X dX11_lowest_41 1 rfl ?_
      refine k_ldiv X dX11_lowest_43 (lown (by assumption) (by assumption) (by assumption)) ?_
      refine k_nmL (fun y_12 ey_12 => ?_)
      exact k_lret X hr dX11_lowest_44 (Nat.le_of_ble_eq_true rfl) (Nat.le_of_ble_eq_true rfl) [] (by decide) rfl rfl rfl
    · skip
      refine k_lload_n X dX11_lowest_36 3 rfl ?_
      refine k_goto 41 X dX11_lowest_37 (by decide) ?_
      refine k_lload X dX11_lowest_41 1 rfl ?_
      refine k_ldiv X dX11_lowest_43 (lown (by assumption) (by assumption) (by assumption)) ?_
      refine k_nmL (fun y_13 ey_13 => ?_)
      exact k_lret X hr dX11_lowest_44 (Nat.le_of_ble_eq_true rfl) (Nat.le_of_ble_eq_true rfl) [] (by decide) rfl rfl rfl
  · skip
    refine k_lload X dX11_lowest_13 1 rfl ?_
    refine k_lload X dX11_lowest_15 0 rfl ?_
    refine k_lrem X dX11_lowest_17 (lg0 (by assumption) (by assumption)) ?_
    refine k_nmL (fun y_14 ey_14 => ?_)
    refine k_lstore [(9, .long y_14), (7, .long u_2), (5, .long u_1), (0, .long p0), (2, .long p1), (4, .int p2)] X dX11_lowest_18 (by decide) rfl ?_
    refine k_lload X dX11_lowest_20 1 rfl ?_
    refine k_lstore [(5, .long u_2), (9, .long y_14), (7, .long u_2), (0, .long p0), (2, .long p1), (4, .int p2)] X dX11_lowest_22 (by decide) rfl ?_
    refine k_lload X dX11_lowest_24 1 rfl ?_
    refine k_lstore [(7, .long y_14), (5, .long u_2), (9, .long y_14), (0, .long p0), (2, .long p1), (4, .int p2)] X dX11_lowest_26 (by decide) rfl ?_
    refine k_goto 6 X dX11_lowest_28 (by decide) ?_
    refine k_lv [(7, .long y_14), (5, .long u_2), (0, .long p0), (2, .long p1), (4, .int p2)] [0, 1, 3, 4, 5] rfl ?_
    exact ih_6 _ (by rw [← hm_5]; exact lrem_abs (by assumption) (lg0 (by assumption) (by assumption))) u_2 y_14 rfl (fun q => absurd q.1 (lg0 (by assumption) (by assumption)))

theorem dX11_holds_0 : decode cX11_holds 0 = .ok (.aload_n 0, 1) := dk_42 rfl
theorem dX11_holds_1 : decode cX11_holds 1 = .ok (.invokevirtual 200, 3) := dk_182 rfl rfl rfl rfl
theorem dX11_holds_4 : decode cX11_holds 4 = .ok (.aload_n 0, 1) := dk_42 rfl
theorem dX11_holds_5 : decode cX11_holds 5 = .ok (.iload_n 1, 1) := dk_27 rfl
theorem dX11_holds_6 : decode cX11_holds 6 = .ok (.invokevirtual 412, 3) := dk_182 rfl rfl rfl rfl
theorem dX11_holds_9 : decode cX11_holds 9 = .ok (.ifCond .eq 11, 3) := dk_153 rfl rfl rfl (by decide)
theorem dX11_holds_12 : decode cX11_holds 12 = .ok (.aload_n 0, 1) := dk_42 rfl
theorem dX11_holds_13 : decode cX11_holds 13 = .ok (.iload_n 1, 1) := dk_27 rfl
theorem dX11_holds_14 : decode cX11_holds 14 = .ok (.invokevirtual 339, 3) := dk_182 rfl rfl rfl rfl
theorem dX11_holds_17 : decode cX11_holds 17 = .ok (.ifCond .eq 10, 3) := dk_153 rfl rfl rfl (by decide)
theorem dX11_holds_20 : decode cX11_holds 20 = .ok (.aload_n 0, 1) := dk_42 rfl
theorem dX11_holds_21 : decode cX11_holds 21 = .ok (.iconst 1, 1) := dk_4 rfl
theorem dX11_holds_22 : decode cX11_holds 22 = .ok (.invokevirtual 203, 3) := dk_182 rfl rfl rfl rfl
theorem dX11_holds_25 : decode cX11_holds 25 = .ok (.i2l, 1) := dk_133 rfl
theorem dX11_holds_26 : decode cX11_holds 26 = .ok (.lreturn, 1) := dk_173 rfl
theorem dX11_holds_27 : decode cX11_holds 27 = .ok (.iload_n 2, 1) := dk_28 rfl
theorem dX11_holds_28 : decode cX11_holds 28 = .ok (.iconst 0, 1) := dk_3 rfl
theorem dX11_holds_29 : decode cX11_holds 29 = .ok (.iconst 4, 1) := dk_7 rfl
theorem dX11_holds_30 : decode cX11_holds 30 = .ok (.invokestatic 182, 3) := dk_184 rfl rfl rfl rfl
theorem dX11_holds_33 : decode cX11_holds 33 = .ok (.ifCond .eq 36, 3) := dk_153 rfl rfl rfl (by decide)
theorem dX11_holds_36 : decode cX11_holds 36 = .ok (.bipush 100, 2) := dk_16 rfl rfl (by decide)
theorem dX11_holds_38 : decode cX11_holds 38 = .ok (.aload_n 0, 1) := dk_42 rfl
theorem dX11_holds_39 : decode cX11_holds 39 = .ok (.getfield 20, 3) := dk_180 rfl rfl rfl rfl
theorem dX11_holds_42 : decode cX11_holds 42 = .ok (.bipush 96, 2) := dk_16 rfl rfl (by decide)
theorem dX11_holds_44 : decode cX11_holds 44 = .ok (.iconst 3, 1) := dk_6 rfl
theorem dX11_holds_45 : decode cX11_holds 45 = .ok (.iload_n 1, 1) := dk_27 rfl
theorem dX11_holds_46 : decode cX11_holds 46 = .ok (.imul, 1) := dk_104 rfl
theorem dX11_holds_47 : decode cX11_holds 47 = .ok (.iadd, 1) := dk_96 rfl
theorem dX11_holds_48 : decode cX11_holds 48 = .ok (.iconst 2, 1) := dk_5 rfl
theorem dX11_holds_49 : decode cX11_holds 49 = .ok (.iadd, 1) := dk_96 rfl
theorem dX11_holds_50 : decode cX11_holds 50 = .ok (.iaload, 1) := dk_46 rfl
theorem dX11_holds_51 : decode cX11_holds 51 = .ok (.isub, 1) := dk_100 rfl
theorem dX11_holds_52 : decode cX11_holds 52 = .ok (.iload_n 2, 1) := dk_28 rfl
theorem dX11_holds_53 : decode cX11_holds 53 = .ok (.invokestatic 415, 3) := dk_184 rfl rfl rfl rfl
theorem dX11_holds_56 : decode cX11_holds 56 = .ok (.bipush 100, 2) := dk_16 rfl rfl (by decide)
theorem dX11_holds_58 : decode cX11_holds 58 = .ok (.iload_n 2, 1) := dk_28 rfl
theorem dX11_holds_59 : decode cX11_holds 59 = .ok (.invokestatic 415, 3) := dk_184 rfl rfl rfl rfl
theorem dX11_holds_62 : decode cX11_holds 62 = .ok (.iload_n 3, 1) := dk_29 rfl
theorem dX11_holds_63 : decode cX11_holds 63 = .ok (.invokestatic 408, 3) := dk_184 rfl rfl rfl rfl
theorem dX11_holds_66 : decode cX11_holds 66 = .ok (.goto 9, 3) := dk_167 rfl rfl rfl (by decide)
theorem dX11_holds_69 : decode cX11_holds 69 = .ok (.aload_n 0, 1) := dk_42 rfl
theorem dX11_holds_70 : decode cX11_holds 70 = .ok (.iconst 2, 1) := dk_5 rfl
theorem dX11_holds_71 : decode cX11_holds 71 = .ok (.invokevirtual 203, 3) := dk_182 rfl rfl rfl rfl
theorem dX11_holds_74 : decode cX11_holds 74 = .ok (.i2l, 1) := dk_133 rfl
theorem dX11_holds_75 : decode cX11_holds 75 = .ok (.lreturn, 1) := dk_173 rfl
set_option maxHeartbeats 4000000 in
set_option maxRecDepth 100000 in
theorem m_holds (l : Launch) (g : Gx) (h0 : Nat) (p0 : Int32) (p1 : Int32) (p2 : Int32) (m_thrown : Int32) (a_tape : Nat) (m_taped : Int32) (m_size : Int32) (m_at : Int32) (m_end : Int32) (m_token : Int32) (m_whole : Int32) (m_nameSize : Int32) (m_fault : Int32) (m_place : Int32) (m_trouble : Int32) (a_letters : Nat) (m_failed : Int32) (m_hasHouse : Int32) (a_r : Nat) (a_fresh : Nat) (a_st : Nat) (a_undone : Nat) (a_kept : Nat) (m_undos : Int32) (m_images : Int32) (a_from : Nat) (a_begin : Nat) (a_motor : Nat) (a_change : Nat) (a_startFrame : Nat) (a_changeFrame : Nat) (a_lostAt : Nat) (a_blackAt : Nat) (a_slips : Nat) (a_leftArc : Nat) (a_died : Nat) (a_arcs : Nat) (m_bestSum : Int32) (m_nearest : Int32) (m_nearestTown : Int32) (a_there : Nat) (a_backAt : Nat) (a_sorted : Nat) (a_parts : Nat) (m_seed1 : Int32) (m_darkNow : Int32) (d_r : Nat → Int32) (d_st : Nat → Int32) (hv_m_hasHouse : IV m_hasHouse 0 1) (hp_d_r : RInv d_r) : cL l g yX11_holds cX11_holds 4 (some .long) 2 43 0 0 [.ref h0, .int p0, .int p1, .int p2] [(cO11_i1r1i10r1i2r5i2r12i3r4i2 h0 m_thrown a_tape m_taped m_size m_at m_end m_token m_whole m_nameSize m_fault m_place m_trouble a_letters m_failed m_hasHouse a_r a_fresh a_st a_undone a_kept m_undos m_images a_from a_begin a_motor a_change a_startFrame a_changeFrame a_lostAt a_blackAt a_slips a_leftArc a_died a_arcs m_bestSum m_nearest m_nearestTown a_there a_backAt a_sorted a_parts m_seed1 m_darkNow), (cAI g a_r 311 d_r), (cAI g a_st 44 d_st)] (fun r w => ∃ (m_thrown2 : Int32) (m_trouble2 : Int32), w = [(cO11_i1r1i10r1i2r5i2r12i3r4i2 h0 m_thrown2 a_tape m_taped m_size m_at m_end m_token m_whole m_nameSize m_fault m_place m_trouble2 a_letters m_failed m_hasHouse a_r a_fresh a_st a_undone a_kept m_undos m_images a_from a_begin a_motor a_change a_startFrame a_changeFrame a_lostAt a_blackAt a_slips a_leftArc a_died a_arcs m_bestSum m_nearest m_nearestTown a_there a_backAt a_sorted a_parts m_seed1 m_darkNow), (cAI g a_r 311 d_r), (cAI g a_st 44 d_st)]) := by
  refine cL.of (by decide) (Nat.le_of_ble_eq_true rfl) ?_
  intro p e s m args below meth c A X hr hi
  refine k_lveq [(0, .ref h0), (1, .int p0), (2, .int p1), (3, .int p2)] rfl ?_
  refine k_aload_n X dX11_holds_0 0 rfl ?_
  refine k_callVV (n := 0) (As := []) (st := []) X [(cO11_i1r1i10r1i2r5i2r12i3r4i2 h0 m_thrown a_tape m_taped m_size m_at m_end m_token m_whole m_nameSize m_fault m_place m_trouble a_letters m_failed m_hasHouse a_r a_fresh a_st a_undone a_kept m_undos m_images a_from a_begin a_motor a_change a_startFrame a_changeFrame a_lostAt a_blackAt a_slips a_leftArc a_died a_arcs m_bestSum m_nearest m_nearestTown a_there a_backAt a_sorted a_parts m_seed1 m_darkNow)] [(cAI g a_r 311 d_r), (cAI g a_st 44 d_st)] [0] [1, 2] (m_good l g h0 m_thrown a_tape m_taped m_size m_at m_end m_token m_whole m_nameSize m_fault m_place m_trouble a_letters m_failed m_hasHouse a_r a_fresh a_st a_undone a_kept m_undos m_images a_from a_begin a_motor a_change a_startFrame a_changeFrame a_lostAt a_blackAt a_slips a_leftArc a_died a_arcs m_bestSum m_nearest m_nearestTown a_there a_backAt a_sorted a_parts m_seed1 m_darkNow) dX11_holds_1 mw477 mw478 mw479 mw5 mw480 rfl 11 rfl rfl 0 _ rfl yk_yX11_good_0 rfl (Nat.le_of_ble_eq_true rfl) (Nat.le_of_ble_eq_true rfl) (Nat.le_of_ble_eq_true rfl) (Nat.le_of_ble_eq_true rfl) (Nat.le_of_ble_eq_true rfl) rfl rfl (by decide) rfl (by decide) (by decide) ?_
  rintro w ⟨m_thrown2_1, m_trouble2_2, rfl⟩
  refine k_ws [(cAI g a_r 311 d_r), (cAI g a_st 44 d_st), (cO11_i1r1i10r1i2r5i2r12i3r4i2 h0 m_thrown2_1 a_tape m_taped m_size m_at m_end m_token m_whole m_nameSize m_fault m_place m_trouble2_2 a_letters m_failed m_hasHouse a_r a_fresh a_st a_undone a_kept m_undos m_images a_from a_begin a_motor a_change a_startFrame a_changeFrame a_lostAt a_blackAt a_slips a_leftArc a_died a_arcs m_bestSum m_nearest m_nearestTown a_there a_backAt a_sorted a_parts m_seed1 m_darkNow)] rfl ?_
  refine k_aload_n X dX11_holds_4 0 rfl ?_
  refine k_iload_n X dX11_holds_5 1 rfl ?_
  refine k_callVI (n := 1) (As := [.int p0]) (st := []) X [(cO11_i1r1i10r1i2r5i2r12i3r4i2 h0 m_thrown2_1 a_tape m_taped m_size m_at m_end m_token m_whole m_nameSize m_fault m_place m_trouble2_2 a_letters m_failed m_hasHouse a_r a_fresh a_st a_undone a_kept m_undos m_images a_from a_begin a_motor a_change a_startFrame a_changeFrame a_lostAt a_blackAt a_slips a_leftArc a_died a_arcs m_bestSum m_nearest m_nearestTown a_there a_backAt a_sorted a_parts m_seed1 m_darkNow), (cAI g a_r 311 d_r)] [(cAI g a_st 44 d_st)] [2, 0] [1] (m_isWeak l g h0 p0 m_thrown2_1 a_tape m_taped m_size m_at m_end m_token m_whole m_nameSize m_fault m_place m_trouble2_2 a_letters m_failed m_hasHouse a_r a_fresh a_st a_undone a_kept m_undos m_images a_from a_begin a_motor a_change a_startFrame a_changeFrame a_lostAt a_blackAt a_slips a_leftArc a_died a_arcs m_bestSum m_nearest m_nearestTown a_there a_backAt a_sorted a_parts m_seed1 m_darkNow d_r (iv_w hv_m_hasHouse (by decide) (by decide)) hp_d_r) dX11_holds_6 mw1252 mw1253 mw1254 mw5 mw1255 rfl 11 rfl rfl 0 _ rfl yk_yX11_isWeak_1 rfl (Nat.le_of_ble_eq_true rfl) (Nat.le_of_ble_eq_true rfl) (Nat.le_of_ble_eq_true rfl) (Nat.le_of_ble_eq_true rfl) (Nat.le_of_ble_eq_true rfl) rfl rfl (by decide) rfl (by decide) (by decide) ?_
  rintro r_4 w ⟨iv_5, hk_6, rfl⟩
  refine k_ws [(cAI g a_st 44 d_st), (cO11_i1r1i10r1i2r5i2r12i3r4i2 h0 m_thrown2_1 a_tape m_taped m_size m_at m_end m_token m_whole m_nameSize m_fault m_place m_trouble2_2 a_letters m_failed m_hasHouse a_r a_fresh a_st a_undone a_kept m_undos m_images a_from a_begin a_motor a_change a_startFrame a_changeFrame a_lostAt a_blackAt a_slips a_leftArc a_died a_arcs m_bestSum m_nearest m_nearestTown a_there a_backAt a_sorted a_parts m_seed1 m_darkNow), (cAI g a_r 311 d_r)] rfl ?_
  refine k_if_eq 20 X dX11_holds_9 (by decide) (fun h_7 => ?_) (fun h_7 => ?_)
  · skip
    have iv_8 : IV r_4 0 0 := iv_meet iv_5 (iv_e h_7 (show IV 0 0 0 from (by decide))) (by decide) (by decide)
    refine k_aload_n X dX11_holds_20 0 rfl ?_
    refine k_iconst (v := 1) X dX11_holds_21 (by decide) ?_
    refine k_callVI (n := 1) (As := [.int 1]) (st := []) X [(cO11_i1r1i10r1i2r5i2r12i3r4i2 h0 m_thrown2_1 a_tape m_taped m_size m_at m_end m_token m_whole m_nameSize m_fault m_place m_trouble2_2 a_letters m_failed m_hasHouse a_r a_fresh a_st a_undone a_kept m_undos m_images a_from a_begin a_motor a_change a_startFrame a_changeFrame a_lostAt a_blackAt a_slips a_leftArc a_died a_arcs m_bestSum m_nearest m_nearestTown a_there a_backAt a_sorted a_parts m_seed1 m_darkNow)] [(cAI g a_st 44 d_st), (cAI g a_r 311 d_r)] [1] [0, 2] (m_no l g h0 1 m_thrown2_1 a_tape m_taped m_size m_at m_end m_token m_whole m_nameSize m_fault m_place m_trouble2_2 a_letters m_failed m_hasHouse a_r a_fresh a_st a_undone a_kept m_undos m_images a_from a_begin a_motor a_change a_startFrame a_changeFrame a_lostAt a_blackAt a_slips a_leftArc a_died a_arcs m_bestSum m_nearest m_nearestTown a_there a_backAt a_sorted a_parts m_seed1 m_darkNow) dX11_holds_22 mw485 mw486 mw487 mw5 mw488 rfl 11 rfl rfl 0 _ rfl yk_yX11_no_1 rfl (Nat.le_of_ble_eq_true rfl) (Nat.le_of_ble_eq_true rfl) (Nat.le_of_ble_eq_true rfl) (Nat.le_of_ble_eq_true rfl) (Nat.le_of_ble_eq_true rfl) rfl rfl (by decide) rfl (by decide) (by decide) ?_
    rintro r_10 w ⟨m_trouble2_9, iv_11, rfl⟩
    refine k_ws [(cAI g a_st 44 d_st), (cAI g a_r 311 d_r), (cO11_i1r1i10r1i2r5i2r12i3r4i2 h0 m_thrown2_1 a_tape m_taped m_size m_at m_end m_token m_whole m_nameSize m_fault m_place m_trouble2_9 a_letters m_failed m_hasHouse a_r a_fresh a_st a_undone a_kept m_undos m_images a_from a_begin a_motor a_change a_startFrame a_changeFrame a_lostAt a_blackAt a_slips a_leftArc a_died a_arcs m_bestSum m_nearest m_nearestTown a_there a_backAt a_sorted a_parts m_seed1 m_darkNow)] rfl ?_
    refine k_i2l X dX11_holds_25 ?_
    refine k_nmL (fun y_12 ey_12 => ?_)
    exact k_lret X hr dX11_holds_26 (Nat.le_of_ble_eq_true rfl) (Nat.le_of_ble_eq_true rfl) [2, 1, 0] (by decide) rfl rfl ⟨m_thrown2_1, m_trouble2_9, rfl⟩
  · skip
    have hc_13 := hk_6.resolve_left h_7
    have iv_14 : IV p0 0 5 := iv_meet (iv_any p0) hc_13 (by decide) (by decide)
    have iv_15 : IV r_4 1 1 := iv_neL h_7 iv_5 (show IV 0 0 0 from (by decide)) (by decide)
    refine k_aload_n X dX11_holds_12 0 rfl ?_
    refine k_iload_n X dX11_holds_13 1 rfl ?_
    refine k_callVI (n := 1) (As := [.int p0]) (st := []) X [(cO11_i1r1i10r1i2r5i2r12i3r4i2 h0 m_thrown2_1 a_tape m_taped m_size m_at m_end m_token m_whole m_nameSize m_fault m_place m_trouble2_2 a_letters m_failed m_hasHouse a_r a_fresh a_st a_undone a_kept m_undos m_images a_from a_begin a_motor a_change a_startFrame a_changeFrame a_lostAt a_blackAt a_slips a_leftArc a_died a_arcs m_bestSum m_nearest m_nearestTown a_there a_backAt a_sorted a_parts m_seed1 m_darkNow), (cAI g a_st 44 d_st)] [(cAI g a_r 311 d_r)] [1, 0] [2] (m_isMended l g h0 p0 m_thrown2_1 a_tape m_taped m_size m_at m_end m_token m_whole m_nameSize m_fault m_place m_trouble2_2 a_letters m_failed m_hasHouse a_r a_fresh a_st a_undone a_kept m_undos m_images a_from a_begin a_motor a_change a_startFrame a_changeFrame a_lostAt a_blackAt a_slips a_leftArc a_died a_arcs m_bestSum m_nearest m_nearestTown a_there a_backAt a_sorted a_parts m_seed1 m_darkNow d_st) dX11_holds_14 mw682 mw683 mw684 mw5 mw685 rfl 11 rfl rfl 0 _ rfl yk_yX11_isMended_1 rfl (Nat.le_of_ble_eq_true rfl) (Nat.le_of_ble_eq_true rfl) (Nat.le_of_ble_eq_true rfl) (Nat.le_of_ble_eq_true rfl) (Nat.le_of_ble_eq_true rfl) rfl rfl (by decide) rfl (by decide) (by decide) ?_
    rintro r_16 w ⟨iv_17, rfl⟩
    refine k_ws [(cAI g a_r 311 d_r), (cO11_i1r1i10r1i2r5i2r12i3r4i2 h0 m_thrown2_1 a_tape m_taped m_size m_at m_end m_token m_whole m_nameSize m_fault m_place m_trouble2_2 a_letters m_failed m_hasHouse a_r a_fresh a_st a_undone a_kept m_undos m_images a_from a_begin a_motor a_change a_startFrame a_changeFrame a_lostAt a_blackAt a_slips a_leftArc a_died a_arcs m_bestSum m_nearest m_nearestTown a_there a_backAt a_sorted a_parts m_seed1 m_darkNow), (cAI g a_st 44 d_st)] rfl ?_
    refine k_if_eq 27 X dX11_holds_17 (by decide) (fun h_18 => ?_) (fun h_18 => ?_)
    · skip
      have iv_19 : IV r_16 0 0 := iv_meet iv_17 (iv_e h_18 (show IV 0 0 0 from (by decide))) (by decide) (by decide)
      refine k_iload_n X dX11_holds_27 2 rfl ?_
      refine k_iconst (v := 0) X dX11_holds_28 (by decide) ?_
      refine k_iconst (v := 4) X dX11_holds_29 (by decide) ?_
      refine k_callSI (n := 3) (As := [.int p1, .int 0, .int 4]) (st := []) X [] [(cAI g a_r 311 d_r), (cO11_i1r1i10r1i2r5i2r12i3r4i2 h0 m_thrown2_1 a_tape m_taped m_size m_at m_end m_token m_whole m_nameSize m_fault m_place m_trouble2_2 a_letters m_failed m_hasHouse a_r a_fresh a_st a_undone a_kept m_undos m_images a_from a_begin a_motor a_change a_startFrame a_changeFrame a_lostAt a_blackAt a_slips a_leftArc a_died a_arcs m_bestSum m_nearest m_nearestTown a_there a_backAt a_sorted a_parts m_seed1 m_darkNow), (cAI g a_st 44 d_st)] [] [0, 1, 2] (m_in l g p1 0 4) dX11_holds_30 mw482 mw483 mw5 mw484 yk_yX11_in_3 rfl (Nat.le_of_ble_eq_true rfl) (Nat.le_of_ble_eq_true rfl) (Nat.le_of_ble_eq_true rfl) (Nat.le_of_ble_eq_true rfl) (Nat.le_of_ble_eq_true rfl) rfl rfl (by decide) rfl (by decide) (by decide) ?_
      rintro r_20 w ⟨iv_21, hk_22, hk_23, rfl⟩
      refine k_ws [(cAI g a_r 311 d_r), (cO11_i1r1i10r1i2r5i2r12i3r4i2 h0 m_thrown2_1 a_tape m_taped m_size m_at m_end m_token m_whole m_nameSize m_fault m_place m_trouble2_2 a_letters m_failed m_hasHouse a_r a_fresh a_st a_undone a_kept m_undos m_images a_from a_begin a_motor a_change a_startFrame a_changeFrame a_lostAt a_blackAt a_slips a_leftArc a_died a_arcs m_bestSum m_nearest m_nearestTown a_there a_backAt a_sorted a_parts m_seed1 m_darkNow), (cAI g a_st 44 d_st)] rfl ?_
      refine k_if_eq 69 X dX11_holds_33 (by decide) (fun h_24 => ?_) (fun h_24 => ?_)
      · skip
        have iv_25 : IV r_20 0 0 := iv_meet iv_21 (iv_e h_24 (show IV 0 0 0 from (by decide))) (by decide) (by decide)
        have hc_26 := hk_23 (iv_eq iv_25 (show IV 0 0 0 from (by decide)))
        have j_27 : p1.toInt < 0 ∨ 4 < p1.toInt := hc_26
        refine k_aload_n X dX11_holds_69 0 rfl ?_
        refine k_iconst (v := 2) X dX11_holds_70 (by decide) ?_
        refine k_callVI (n := 1) (As := [.int 2]) (st := []) X [(cO11_i1r1i10r1i2r5i2r12i3r4i2 h0 m_thrown2_1 a_tape m_taped m_size m_at m_end m_token m_whole m_nameSize m_fault m_place m_trouble2_2 a_letters m_failed m_hasHouse a_r a_fresh a_st a_undone a_kept m_undos m_images a_from a_begin a_motor a_change a_startFrame a_changeFrame a_lostAt a_blackAt a_slips a_leftArc a_died a_arcs m_bestSum m_nearest m_nearestTown a_there a_backAt a_sorted a_parts m_seed1 m_darkNow)] [(cAI g a_r 311 d_r), (cAI g a_st 44 d_st)] [1] [0, 2] (m_no l g h0 2 m_thrown2_1 a_tape m_taped m_size m_at m_end m_token m_whole m_nameSize m_fault m_place m_trouble2_2 a_letters m_failed m_hasHouse a_r a_fresh a_st a_undone a_kept m_undos m_images a_from a_begin a_motor a_change a_startFrame a_changeFrame a_lostAt a_blackAt a_slips a_leftArc a_died a_arcs m_bestSum m_nearest m_nearestTown a_there a_backAt a_sorted a_parts m_seed1 m_darkNow) dX11_holds_71 mw485 mw486 mw487 mw5 mw488 rfl 11 rfl rfl 0 _ rfl yk_yX11_no_1 rfl (Nat.le_of_ble_eq_true rfl) (Nat.le_of_ble_eq_true rfl) (Nat.le_of_ble_eq_true rfl) (Nat.le_of_ble_eq_true rfl) (Nat.le_of_ble_eq_true rfl) rfl rfl (by decide) rfl (by decide) (by decide) ?_
        rintro r_29 w ⟨m_trouble2_28, iv_30, rfl⟩
        refine k_ws [(cAI g a_r 311 d_r), (cAI g a_st 44 d_st), (cO11_i1r1i10r1i2r5i2r12i3r4i2 h0 m_thrown2_1 a_tape m_taped m_size m_at m_end m_token m_whole m_nameSize m_fault m_place m_trouble2_28 a_letters m_failed m_hasHouse a_r a_fresh a_st a_undone a_kept m_undos m_images a_from a_begin a_motor a_change a_startFrame a_changeFrame a_lostAt a_blackAt a_slips a_leftArc a_died a_arcs m_bestSum m_nearest m_nearestTown a_there a_backAt a_sorted a_parts m_seed1 m_darkNow)] rfl ?_
        refine k_i2l X dX11_holds_74 ?_
        refine k_nmL (fun y_31 ey_31 => ?_)
        exact k_lret X hr dX11_holds_75 (Nat.le_of_ble_eq_true rfl) (Nat.le_of_ble_eq_true rfl) [2, 0, 1] (by decide) rfl rfl ⟨m_thrown2_1, m_trouble2_28, rfl⟩
      · skip
        have hc_32 := hk_22.resolve_left h_24
        have j_33 : 0 ≤ p1.toInt := hc_32.1
        have iv_34 : IV p1 0 2147483647 := iv_leR hc_32.1 (show IV 0 0 0 from (by decide)) (iv_any p1) (by decide)
        have j_35 : p1.toInt ≤ 4 := hc_32.2
        have iv_36 : IV p1 0 4 := iv_leL hc_32.2 iv_34 (show IV 4 4 4 from (by decide)) (by decide)
        have iv_37 : IV r_20 1 1 := iv_neL h_24 iv_21 (show IV 0 0 0 from (by decide)) (by decide)
        refine k_bipush (v := 100) X dX11_holds_36 (by decide) ?_
        refine k_aload_n X dX11_holds_38 0 rfl ?_
        refine k_get (ci := 11) X inlX11 rfl 15 (by decide) dX11_holds_39 mw170 1 rfl rfl ?_
        refine k_bipush (v := 96) X dX11_holds_42 (by decide) ?_
        refine k_iconst (v := 3) X dX11_holds_44 (by decide) ?_
        refine k_iload_n X dX11_holds_45 1 rfl ?_
        refine k_imul X dX11_holds_46 ?_
        refine k_nm (fun z_38 ez_38 => ?_)
        have i_39 : z_38.toInt = 3 * p0.toInt := in_mul ez_38 (by decide) (by decide) iv_14 (by decide) (by decide)
        have iv_40 : IV z_38 0 15 := iz4 i_39 iv_14 (by decide) (by decide) (by decide)
        refine k_iadd X dX11_holds_47 ?_
        refine k_nm (fun z_41 ez_41 => ?_)
        have i_42 : z_41.toInt = 96 + z_38.toInt := in_add ez_41 (show IV 96 96 96 from (by decide)) iv_40 (by decide) (by decide)
        have iv_43 : IV z_41 96 111 := iz2 i_42 iv_40 (by decide) (by decide)
        refine k_iconst (v := 2) X dX11_holds_48 (by decide) ?_
        refine k_iadd X dX11_holds_49 ?_
        refine k_nm (fun z_44 ez_44 => ?_)
        have i_45 : z_44.toInt = z_41.toInt + 2 := in_add ez_44 iv_43 (show IV 2 2 2 from (by decide)) (by decide) (by decide)
        have iv_46 : IV z_44 98 113 := iz1 i_45 iv_43 (by decide) (by decide)
        refine k_iald X dX11_holds_50 0 rfl (iv_in iv_46 (by decide) (by decide)) ?_
        refine k_nm (fun z_47 ez_47 => ?_)
        refine k_isub X dX11_holds_51 ?_
        refine k_nm (fun z_48 ez_48 => ?_)
        refine k_iload_n X dX11_holds_52 2 rfl ?_
        refine k_callSL (n := 2) (As := [.int z_48, .int p1]) (st := []) X [] [(cAI g a_r 311 d_r), (cO11_i1r1i10r1i2r5i2r12i3r4i2 h0 m_thrown2_1 a_tape m_taped m_size m_at m_end m_token m_whole m_nameSize m_fault m_place m_trouble2_2 a_letters m_failed m_hasHouse a_r a_fresh a_st a_undone a_kept m_undos m_images a_from a_begin a_motor a_change a_startFrame a_changeFrame a_lostAt a_blackAt a_slips a_leftArc a_died a_arcs m_bestSum m_nearest m_nearestTown a_there a_backAt a_sorted a_parts m_seed1 m_darkNow), (cAI g a_st 44 d_st)] [] [0, 1, 2] (m_power l g z_48 p1) dX11_holds_53 mw1256 mw1257 mw5 mw1258 yk_yX11_power_2 rfl (Nat.le_of_ble_eq_true rfl) (Nat.le_of_ble_eq_true rfl) (Nat.le_of_ble_eq_true rfl) (Nat.le_of_ble_eq_true rfl) (Nat.le_of_ble_eq_true rfl) rfl rfl (by decide) rfl (by decide) (by decide) ?_
        rintro r_50 w rfl
        refine k_ws [(cAI g a_r 311 d_r), (cO11_i1r1i10r1i2r5i2r12i3r4i2 h0 m_thrown2_1 a_tape m_taped m_size m_at m_end m_token m_whole m_nameSize m_fault m_place m_trouble2_2 a_letters m_failed m_hasHouse a_r a_fresh a_st a_undone a_kept m_undos m_images a_from a_begin a_motor a_change a_startFrame a_changeFrame a_lostAt a_blackAt a_slips a_leftArc a_died a_arcs m_bestSum m_nearest m_nearestTown a_there a_backAt a_sorted a_parts m_seed1 m_darkNow), (cAI g a_st 44 d_st)] rfl ?_
        refine k_bipush (v := 100) X dX11_holds_56 (by decide) ?_
        refine k_iload_n X dX11_holds_58 2 rfl ?_
        refine k_callSL (n := 2) (As := [.int 100, .int p1]) (st := [.long r_50]) X [] [(cAI g a_r 311 d_r), (cO11_i1r1i10r1i2r5i2r12i3r4i2 h0 m_thrown2_1 a_tape m_taped m_size m_at m_end m_token m_whole m_nameSize m_fault m_place m_trouble2_2 a_letters m_failed m_hasHouse a_r a_fresh a_st a_undone a_kept m_undos m_images a_from a_begin a_motor a_change a_startFrame a_changeFrame a_lostAt a_blackAt a_slips a_leftArc a_died a_arcs m_bestSum m_nearest m_nearestTown a_there a_backAt a_sorted a_parts m_seed1 m_darkNow), (cAI g a_st 44 d_st)] [] [0, 1, 2] (m_powerH l g p1 (iv_w iv_36 (by decide) (by decide))) dX11_holds_59 mw1256 mw1257 mw5 mw1258 yk_yX11_power_2 rfl (Nat.le_of_ble_eq_true rfl) (Nat.le_of_ble_eq_true rfl) (Nat.le_of_ble_eq_true rfl) (Nat.le_of_ble_eq_true rfl) (Nat.le_of_ble_eq_true rfl) rfl rfl (by decide) rfl (by decide) (by decide) ?_
        rintro r_51 w ⟨hq_52, rfl⟩
        refine k_ws [(cAI g a_r 311 d_r), (cO11_i1r1i10r1i2r5i2r12i3r4i2 h0 m_thrown2_1 a_tape m_taped m_size m_at m_end m_token m_whole m_nameSize m_fault m_place m_trouble2_2 a_letters m_failed m_hasHouse a_r a_fresh a_st a_undone a_kept m_undos m_images a_from a_begin a_motor a_change a_startFrame a_changeFrame a_lostAt a_blackAt a_slips a_leftArc a_died a_arcs m_bestSum m_nearest m_nearestTown a_there a_backAt a_sorted a_parts m_seed1 m_darkNow), (cAI g a_st 44 d_st)] rfl ?_
        refine k_iload_n X dX11_holds_62 3 rfl ?_
        refine k_callSL (n := 3) (As := [.long r_50, .long r_51, .int p2]) (st := []) X [] [(cAI g a_r 311 d_r), (cO11_i1r1i10r1i2r5i2r12i3r4i2 h0 m_thrown2_1 a_tape m_taped m_size m_at m_end m_token m_whole m_nameSize m_fault m_place m_trouble2_2 a_letters m_failed m_hasHouse a_r a_fresh a_st a_undone a_kept m_undos m_images a_from a_begin a_motor a_change a_startFrame a_changeFrame a_lostAt a_blackAt a_slips a_leftArc a_died a_arcs m_bestSum m_nearest m_nearestTown a_there a_backAt a_sorted a_parts m_seed1 m_darkNow), (cAI g a_st 44 d_st)] [] [0, 1, 2] (m_lowest l g r_50 r_51 p2 (by first | exact Or.inr (by decide) | exact Or.inr (by assumption) | exact Or.inl (by assumption))) dX11_holds_63 mw1167 mw1168 mw5 mw1169 yk_yX11_lowest_3 rfl (Nat.le_of_ble_eq_true rfl) (Nat.le_of_ble_eq_true rfl) (Nat.le_of_ble_eq_true rfl) (Nat.le_of_ble_eq_true rfl) (Nat.le_of_ble_eq_true rfl) rfl rfl (by decide) rfl (by decide) (by decide) ?_
        rintro r_53 w rfl
        refine k_ws [(cAI g a_r 311 d_r), (cO11_i1r1i10r1i2r5i2r12i3r4i2 h0 m_thrown2_1 a_tape m_taped m_size m_at m_end m_token m_whole m_nameSize m_fault m_place m_trouble2_2 a_letters m_failed m_hasHouse a_r a_fresh a_st a_undone a_kept m_undos m_images a_from a_begin a_motor a_change a_startFrame a_changeFrame a_lostAt a_blackAt a_slips a_leftArc a_died a_arcs m_bestSum m_nearest m_nearestTown a_there a_backAt a_sorted a_parts m_seed1 m_darkNow), (cAI g a_st 44 d_st)] rfl ?_
        refine k_goto 75 X dX11_holds_66 (by decide) ?_
        exact k_lret X hr dX11_holds_75 (Nat.le_of_ble_eq_true rfl) (Nat.le_of_ble_eq_true rfl) [1, 0, 2] (by decide) rfl rfl ⟨m_thrown2_1, m_trouble2_2, rfl⟩
    · skip
      have iv_54 : IV r_16 1 1 := iv_neL h_18 iv_17 (show IV 0 0 0 from (by decide)) (by decide)
      refine k_aload_n X dX11_holds_20 0 rfl ?_
      refine k_iconst (v := 1) X dX11_holds_21 (by decide) ?_
      refine k_callVI (n := 1) (As := [.int 1]) (st := []) X [(cO11_i1r1i10r1i2r5i2r12i3r4i2 h0 m_thrown2_1 a_tape m_taped m_size m_at m_end m_token m_whole m_nameSize m_fault m_place m_trouble2_2 a_letters m_failed m_hasHouse a_r a_fresh a_st a_undone a_kept m_undos m_images a_from a_begin a_motor a_change a_startFrame a_changeFrame a_lostAt a_blackAt a_slips a_leftArc a_died a_arcs m_bestSum m_nearest m_nearestTown a_there a_backAt a_sorted a_parts m_seed1 m_darkNow)] [(cAI g a_r 311 d_r), (cAI g a_st 44 d_st)] [1] [0, 2] (m_no l g h0 1 m_thrown2_1 a_tape m_taped m_size m_at m_end m_token m_whole m_nameSize m_fault m_place m_trouble2_2 a_letters m_failed m_hasHouse a_r a_fresh a_st a_undone a_kept m_undos m_images a_from a_begin a_motor a_change a_startFrame a_changeFrame a_lostAt a_blackAt a_slips a_leftArc a_died a_arcs m_bestSum m_nearest m_nearestTown a_there a_backAt a_sorted a_parts m_seed1 m_darkNow) dX11_holds_22 mw485 mw486 mw487 mw5 mw488 rfl 11 rfl rfl 0 _ rfl yk_yX11_no_1 rfl (Nat.le_of_ble_eq_true rfl) (Nat.le_of_ble_eq_true rfl) (Nat.le_of_ble_eq_true rfl) (Nat.le_of_ble_eq_true rfl) (Nat.le_of_ble_eq_true rfl) rfl rfl (by decide) rfl (by decide) (by decide) ?_
      rintro r_56 w ⟨m_trouble2_55, iv_57, rfl⟩
      refine k_ws [(cAI g a_r 311 d_r), (cAI g a_st 44 d_st), (cO11_i1r1i10r1i2r5i2r12i3r4i2 h0 m_thrown2_1 a_tape m_taped m_size m_at m_end m_token m_whole m_nameSize m_fault m_place m_trouble2_55 a_letters m_failed m_hasHouse a_r a_fresh a_st a_undone a_kept m_undos m_images a_from a_begin a_motor a_change a_startFrame a_changeFrame a_lostAt a_blackAt a_slips a_leftArc a_died a_arcs m_bestSum m_nearest m_nearestTown a_there a_backAt a_sorted a_parts m_seed1 m_darkNow)] rfl ?_
      refine k_i2l X dX11_holds_25 ?_
      refine k_nmL (fun y_58 ey_58 => ?_)
      exact k_lret X hr dX11_holds_26 (Nat.le_of_ble_eq_true rfl) (Nat.le_of_ble_eq_true rfl) [2, 0, 1] (by decide) rfl rfl ⟨m_thrown2_1, m_trouble2_55, rfl⟩

theorem dX11_pays_0 : decode cX11_pays 0 = .ok (.aload_n 0, 1) := dk_42 rfl
theorem dX11_pays_1 : decode cX11_pays 1 = .ok (.invokevirtual 200, 3) := dk_182 rfl rfl rfl rfl
theorem dX11_pays_4 : decode cX11_pays 4 = .ok (.aload_n 0, 1) := dk_42 rfl
theorem dX11_pays_5 : decode cX11_pays 5 = .ok (.iload_n 1, 1) := dk_27 rfl
theorem dX11_pays_6 : decode cX11_pays 6 = .ok (.invokevirtual 412, 3) := dk_182 rfl rfl rfl rfl
theorem dX11_pays_9 : decode cX11_pays 9 = .ok (.ifCond .eq 11, 3) := dk_153 rfl rfl rfl (by decide)
theorem dX11_pays_12 : decode cX11_pays 12 = .ok (.aload_n 0, 1) := dk_42 rfl
theorem dX11_pays_13 : decode cX11_pays 13 = .ok (.iload_n 1, 1) := dk_27 rfl
theorem dX11_pays_14 : decode cX11_pays 14 = .ok (.invokevirtual 339, 3) := dk_182 rfl rfl rfl rfl
theorem dX11_pays_17 : decode cX11_pays 17 = .ok (.ifCond .eq 9, 3) := dk_153 rfl rfl rfl (by decide)
theorem dX11_pays_20 : decode cX11_pays 20 = .ok (.aload_n 0, 1) := dk_42 rfl
theorem dX11_pays_21 : decode cX11_pays 21 = .ok (.iconst 1, 1) := dk_4 rfl
theorem dX11_pays_22 : decode cX11_pays 22 = .ok (.invokevirtual 203, 3) := dk_182 rfl rfl rfl rfl
theorem dX11_pays_25 : decode cX11_pays 25 = .ok (.ireturn, 1) := dk_172 rfl
theorem dX11_pays_26 : decode cX11_pays 26 = .ok (.iload_n 2, 1) := dk_28 rfl
theorem dX11_pays_27 : decode cX11_pays 27 = .ok (.iconst 0, 1) := dk_3 rfl
theorem dX11_pays_28 : decode cX11_pays 28 = .ok (.iconst 4, 1) := dk_7 rfl
theorem dX11_pays_29 : decode cX11_pays 29 = .ok (.invokestatic 182, 3) := dk_184 rfl rfl rfl rfl
theorem dX11_pays_32 : decode cX11_pays 32 = .ok (.ifCond .ne 9, 3) := dk_154 rfl rfl rfl (by decide)
theorem dX11_pays_35 : decode cX11_pays 35 = .ok (.aload_n 0, 1) := dk_42 rfl
theorem dX11_pays_36 : decode cX11_pays 36 = .ok (.iconst 2, 1) := dk_5 rfl
theorem dX11_pays_37 : decode cX11_pays 37 = .ok (.invokevirtual 203, 3) := dk_182 rfl rfl rfl rfl
theorem dX11_pays_40 : decode cX11_pays 40 = .ok (.ireturn, 1) := dk_172 rfl
theorem dX11_pays_41 : decode cX11_pays 41 = .ok (.bipush 100, 2) := dk_16 rfl rfl (by decide)
theorem dX11_pays_43 : decode cX11_pays 43 = .ok (.iload_n 2, 1) := dk_28 rfl
theorem dX11_pays_44 : decode cX11_pays 44 = .ok (.invokestatic 415, 3) := dk_184 rfl rfl rfl rfl
theorem dX11_pays_47 : decode cX11_pays 47 = .ok (.lstore_n 3, 1) := dk_66 rfl
theorem dX11_pays_48 : decode cX11_pays 48 = .ok (.aload_n 0, 1) := dk_42 rfl
theorem dX11_pays_49 : decode cX11_pays 49 = .ok (.getfield 20, 3) := dk_180 rfl rfl rfl rfl
theorem dX11_pays_52 : decode cX11_pays 52 = .ok (.iconst 5, 1) := dk_8 rfl
theorem dX11_pays_53 : decode cX11_pays 53 = .ok (.iaload, 1) := dk_46 rfl
theorem dX11_pays_54 : decode cX11_pays 54 = .ok (.i2l, 1) := dk_133 rfl
theorem dX11_pays_55 : decode cX11_pays 55 = .ok (.lload_n 3, 1) := dk_33 rfl
theorem dX11_pays_56 : decode cX11_pays 56 = .ok (.bipush 100, 2) := dk_16 rfl rfl (by decide)
theorem dX11_pays_58 : decode cX11_pays 58 = .ok (.aload_n 0, 1) := dk_42 rfl
theorem dX11_pays_59 : decode cX11_pays 59 = .ok (.getfield 20, 3) := dk_180 rfl rfl rfl rfl
theorem dX11_pays_62 : decode cX11_pays 62 = .ok (.bipush 96, 2) := dk_16 rfl rfl (by decide)
theorem dX11_pays_64 : decode cX11_pays 64 = .ok (.iconst 3, 1) := dk_6 rfl
theorem dX11_pays_65 : decode cX11_pays 65 = .ok (.iload_n 1, 1) := dk_27 rfl
theorem dX11_pays_66 : decode cX11_pays 66 = .ok (.imul, 1) := dk_104 rfl
theorem dX11_pays_67 : decode cX11_pays 67 = .ok (.iadd, 1) := dk_96 rfl
theorem dX11_pays_68 : decode cX11_pays 68 = .ok (.iconst 2, 1) := dk_5 rfl
theorem dX11_pays_69 : decode cX11_pays 69 = .ok (.iadd, 1) := dk_96 rfl
theorem dX11_pays_70 : decode cX11_pays 70 = .ok (.iaload, 1) := dk_46 rfl
theorem dX11_pays_71 : decode cX11_pays 71 = .ok (.isub, 1) := dk_100 rfl
theorem dX11_pays_72 : decode cX11_pays 72 = .ok (.iload_n 2, 1) := dk_28 rfl
theorem dX11_pays_73 : decode cX11_pays 73 = .ok (.invokestatic 415, 3) := dk_184 rfl rfl rfl rfl
theorem dX11_pays_76 : decode cX11_pays 76 = .ok (.lsub, 1) := dk_101 rfl
theorem dX11_pays_77 : decode cX11_pays 77 = .ok (.lmul, 1) := dk_105 rfl
theorem dX11_pays_78 : decode cX11_pays 78 = .ok (.ldc2_w 418, 3) := dk_20 rfl rfl rfl rfl
theorem dX11_pays_81 : decode cX11_pays 81 = .ok (.lload_n 3, 1) := dk_33 rfl
theorem dX11_pays_82 : decode cX11_pays 82 = .ok (.lmul, 1) := dk_105 rfl
theorem dX11_pays_83 : decode cX11_pays 83 = .ok (.lcmp, 1) := dk_148 rfl
theorem dX11_pays_84 : decode cX11_pays 84 = .ok (.ifCond .le 7, 3) := dk_158 rfl rfl rfl (by decide)
theorem dX11_pays_87 : decode cX11_pays 87 = .ok (.iconst 1, 1) := dk_4 rfl
theorem dX11_pays_88 : decode cX11_pays 88 = .ok (.goto 4, 3) := dk_167 rfl rfl rfl (by decide)
theorem dX11_pays_91 : decode cX11_pays 91 = .ok (.iconst 0, 1) := dk_3 rfl
theorem dX11_pays_92 : decode cX11_pays 92 = .ok (.ireturn, 1) := dk_172 rfl
set_option maxHeartbeats 4000000 in
set_option maxRecDepth 100000 in
theorem m_pays (l : Launch) (g : Gx) (h0 : Nat) (p0 : Int32) (p1 : Int32) (m_thrown : Int32) (a_tape : Nat) (m_taped : Int32) (m_size : Int32) (m_at : Int32) (m_end : Int32) (m_token : Int32) (m_whole : Int32) (m_nameSize : Int32) (m_fault : Int32) (m_place : Int32) (m_trouble : Int32) (a_letters : Nat) (m_failed : Int32) (m_hasHouse : Int32) (a_r : Nat) (a_fresh : Nat) (a_st : Nat) (a_undone : Nat) (a_kept : Nat) (m_undos : Int32) (m_images : Int32) (a_from : Nat) (a_begin : Nat) (a_motor : Nat) (a_change : Nat) (a_startFrame : Nat) (a_changeFrame : Nat) (a_lostAt : Nat) (a_blackAt : Nat) (a_slips : Nat) (a_leftArc : Nat) (a_died : Nat) (a_arcs : Nat) (m_bestSum : Int32) (m_nearest : Int32) (m_nearestTown : Int32) (a_there : Nat) (a_backAt : Nat) (a_sorted : Nat) (a_parts : Nat) (m_seed1 : Int32) (m_darkNow : Int32) (d_r : Nat → Int32) (d_st : Nat → Int32) (hv_m_hasHouse : IV m_hasHouse 0 1) (hp_d_r : RInv d_r) : cI l g yX11_pays cX11_pays 5 (some .int) 2 43 0 0 [.ref h0, .int p0, .int p1] [(cO11_i1r1i10r1i2r5i2r12i3r4i2 h0 m_thrown a_tape m_taped m_size m_at m_end m_token m_whole m_nameSize m_fault m_place m_trouble a_letters m_failed m_hasHouse a_r a_fresh a_st a_undone a_kept m_undos m_images a_from a_begin a_motor a_change a_startFrame a_changeFrame a_lostAt a_blackAt a_slips a_leftArc a_died a_arcs m_bestSum m_nearest m_nearestTown a_there a_backAt a_sorted a_parts m_seed1 m_darkNow), (cAI g a_r 311 d_r), (cAI g a_st 44 d_st)] (fun r w => ∃ (m_thrown2 : Int32) (m_trouble2 : Int32), w = [(cO11_i1r1i10r1i2r5i2r12i3r4i2 h0 m_thrown2 a_tape m_taped m_size m_at m_end m_token m_whole m_nameSize m_fault m_place m_trouble2 a_letters m_failed m_hasHouse a_r a_fresh a_st a_undone a_kept m_undos m_images a_from a_begin a_motor a_change a_startFrame a_changeFrame a_lostAt a_blackAt a_slips a_leftArc a_died a_arcs m_bestSum m_nearest m_nearestTown a_there a_backAt a_sorted a_parts m_seed1 m_darkNow), (cAI g a_r 311 d_r), (cAI g a_st 44 d_st)]) := by
  refine cI.of (by decide) (Nat.le_of_ble_eq_true rfl) ?_
  intro p e s m args below meth c A X hr hi
  refine k_lveq [(0, .ref h0), (1, .int p0), (2, .int p1)] rfl ?_
  refine k_aload_n X dX11_pays_0 0 rfl ?_
  refine k_callVV (n := 0) (As := []) (st := []) X [(cO11_i1r1i10r1i2r5i2r12i3r4i2 h0 m_thrown a_tape m_taped m_size m_at m_end m_token m_whole m_nameSize m_fault m_place m_trouble a_letters m_failed m_hasHouse a_r a_fresh a_st a_undone a_kept m_undos m_images a_from a_begin a_motor a_change a_startFrame a_changeFrame a_lostAt a_blackAt a_slips a_leftArc a_died a_arcs m_bestSum m_nearest m_nearestTown a_there a_backAt a_sorted a_parts m_seed1 m_darkNow)] [(cAI g a_r 311 d_r), (cAI g a_st 44 d_st)] [0] [1, 2] (m_good l g h0 m_thrown a_tape m_taped m_size m_at m_end m_token m_whole m_nameSize m_fault m_place m_trouble a_letters m_failed m_hasHouse a_r a_fresh a_st a_undone a_kept m_undos m_images a_from a_begin a_motor a_change a_startFrame a_changeFrame a_lostAt a_blackAt a_slips a_leftArc a_died a_arcs m_bestSum m_nearest m_nearestTown a_there a_backAt a_sorted a_parts m_seed1 m_darkNow) dX11_pays_1 mw477 mw478 mw479 mw5 mw480 rfl 11 rfl rfl 0 _ rfl yk_yX11_good_0 rfl (Nat.le_of_ble_eq_true rfl) (Nat.le_of_ble_eq_true rfl) (Nat.le_of_ble_eq_true rfl) (Nat.le_of_ble_eq_true rfl) (Nat.le_of_ble_eq_true rfl) rfl rfl (by decide) rfl (by decide) (by decide) ?_
  rintro w ⟨m_thrown2_1, m_trouble2_2, rfl⟩
  refine k_ws [(cAI g a_r 311 d_r), (cAI g a_st 44 d_st), (cO11_i1r1i10r1i2r5i2r12i3r4i2 h0 m_thrown2_1 a_tape m_taped m_size m_at m_end m_token m_whole m_nameSize m_fault m_place m_trouble2_2 a_letters m_failed m_hasHouse a_r a_fresh a_st a_undone a_kept m_undos m_images a_from a_begin a_motor a_change a_startFrame a_changeFrame a_lostAt a_blackAt a_slips a_leftArc a_died a_arcs m_bestSum m_nearest m_nearestTown a_there a_backAt a_sorted a_parts m_seed1 m_darkNow)] rfl ?_
  refine k_aload_n X dX11_pays_4 0 rfl ?_
  refine k_iload_n X dX11_pays_5 1 rfl ?_
  refine k_callVI (n := 1) (As := [.int p0]) (st := []) X [(cO11_i1r1i10r1i2r5i2r12i3r4i2 h0 m_thrown2_1 a_tape m_taped m_size m_at m_end m_token m_whole m_nameSize m_fault m_place m_trouble2_2 a_letters m_failed m_hasHouse a_r a_fresh a_st a_undone a_kept m_undos m_images a_from a_begin a_motor a_change a_startFrame a_changeFrame a_lostAt a_blackAt a_slips a_leftArc a_died a_arcs m_bestSum m_nearest m_nearestTown a_there a_backAt a_sorted a_parts m_seed1 m_darkNow), (cAI g a_r 311 d_r)] [(cAI g a_st 44 d_st)] [2, 0] [1] (m_isWeak l g h0 p0 m_thrown2_1 a_tape m_taped m_size m_at m_end m_token m_whole m_nameSize m_fault m_place m_trouble2_2 a_letters m_failed m_hasHouse a_r a_fresh a_st a_undone a_kept m_undos m_images a_from a_begin a_motor a_change a_startFrame a_changeFrame a_lostAt a_blackAt a_slips a_leftArc a_died a_arcs m_bestSum m_nearest m_nearestTown a_there a_backAt a_sorted a_parts m_seed1 m_darkNow d_r (iv_w hv_m_hasHouse (by decide) (by decide)) hp_d_r) dX11_pays_6 mw1252 mw1253 mw1254 mw5 mw1255 rfl 11 rfl rfl 0 _ rfl yk_yX11_isWeak_1 rfl (Nat.le_of_ble_eq_true rfl) (Nat.le_of_ble_eq_true rfl) (Nat.le_of_ble_eq_true rfl) (Nat.le_of_ble_eq_true rfl) (Nat.le_of_ble_eq_true rfl) rfl rfl (by decide) rfl (by decide) (by decide) ?_
  rintro r_4 w ⟨iv_5, hk_6, rfl⟩
  refine k_ws [(cAI g a_st 44 d_st), (cO11_i1r1i10r1i2r5i2r12i3r4i2 h0 m_thrown2_1 a_tape m_taped m_size m_at m_end m_token m_whole m_nameSize m_fault m_place m_trouble2_2 a_letters m_failed m_hasHouse a_r a_fresh a_st a_undone a_kept m_undos m_images a_from a_begin a_motor a_change a_startFrame a_changeFrame a_lostAt a_blackAt a_slips a_leftArc a_died a_arcs m_bestSum m_nearest m_nearestTown a_there a_backAt a_sorted a_parts m_seed1 m_darkNow), (cAI g a_r 311 d_r)] rfl ?_
  refine k_if_eq 20 X dX11_pays_9 (by decide) (fun h_7 => ?_) (fun h_7 => ?_)
  · skip
    have iv_8 : IV r_4 0 0 := iv_meet iv_5 (iv_e h_7 (show IV 0 0 0 from (by decide))) (by decide) (by decide)
    refine k_aload_n X dX11_pays_20 0 rfl ?_
    refine k_iconst (v := 1) X dX11_pays_21 (by decide) ?_
    refine k_callVI (n := 1) (As := [.int 1]) (st := []) X [(cO11_i1r1i10r1i2r5i2r12i3r4i2 h0 m_thrown2_1 a_tape m_taped m_size m_at m_end m_token m_whole m_nameSize m_fault m_place m_trouble2_2 a_letters m_failed m_hasHouse a_r a_fresh a_st a_undone a_kept m_undos m_images a_from a_begin a_motor a_change a_startFrame a_changeFrame a_lostAt a_blackAt a_slips a_leftArc a_died a_arcs m_bestSum m_nearest m_nearestTown a_there a_backAt a_sorted a_parts m_seed1 m_darkNow)] [(cAI g a_st 44 d_st), (cAI g a_r 311 d_r)] [1] [0, 2] (m_no l g h0 1 m_thrown2_1 a_tape m_taped m_size m_at m_end m_token m_whole m_nameSize m_fault m_place m_trouble2_2 a_letters m_failed m_hasHouse a_r a_fresh a_st a_undone a_kept m_undos m_images a_from a_begin a_motor a_change a_startFrame a_changeFrame a_lostAt a_blackAt a_slips a_leftArc a_died a_arcs m_bestSum m_nearest m_nearestTown a_there a_backAt a_sorted a_parts m_seed1 m_darkNow) dX11_pays_22 mw485 mw486 mw487 mw5 mw488 rfl 11 rfl rfl 0 _ rfl yk_yX11_no_1 rfl (Nat.le_of_ble_eq_true rfl) (Nat.le_of_ble_eq_true rfl) (Nat.le_of_ble_eq_true rfl) (Nat.le_of_ble_eq_true rfl) (Nat.le_of_ble_eq_true rfl) rfl rfl (by decide) rfl (by decide) (by decide) ?_
    rintro r_10 w ⟨m_trouble2_9, iv_11, rfl⟩
    refine k_ws [(cAI g a_st 44 d_st), (cAI g a_r 311 d_r), (cO11_i1r1i10r1i2r5i2r12i3r4i2 h0 m_thrown2_1 a_tape m_taped m_size m_at m_end m_token m_whole m_nameSize m_fault m_place m_trouble2_9 a_letters m_failed m_hasHouse a_r a_fresh a_st a_undone a_kept m_undos m_images a_from a_begin a_motor a_change a_startFrame a_changeFrame a_lostAt a_blackAt a_slips a_leftArc a_died a_arcs m_bestSum m_nearest m_nearestTown a_there a_backAt a_sorted a_parts m_seed1 m_darkNow)] rfl ?_
    exact k_iret X hr dX11_pays_25 (Nat.le_of_ble_eq_true rfl) (Nat.le_of_ble_eq_true rfl) [2, 1, 0] (by decide) rfl rfl ⟨m_thrown2_1, m_trouble2_9, rfl⟩
  · skip
    have hc_12 := hk_6.resolve_left h_7
    have iv_13 : IV p0 0 5 := iv_meet (iv_any p0) hc_12 (by decide) (by decide)
    have iv_14 : IV r_4 1 1 := iv_neL h_7 iv_5 (show IV 0 0 0 from (by decide)) (by decide)
    refine k_aload_n X dX11_pays_12 0 rfl ?_
    refine k_iload_n X dX11_pays_13 1 rfl ?_
    refine k_callVI (n := 1) (As := [.int p0]) (st := []) X [(cO11_i1r1i10r1i2r5i2r12i3r4i2 h0 m_thrown2_1 a_tape m_taped m_size m_at m_end m_token m_whole m_nameSize m_fault m_place m_trouble2_2 a_letters m_failed m_hasHouse a_r a_fresh a_st a_undone a_kept m_undos m_images a_from a_begin a_motor a_change a_startFrame a_changeFrame a_lostAt a_blackAt a_slips a_leftArc a_died a_arcs m_bestSum m_nearest m_nearestTown a_there a_backAt a_sorted a_parts m_seed1 m_darkNow), (cAI g a_st 44 d_st)] [(cAI g a_r 311 d_r)] [1, 0] [2] (m_isMended l g h0 p0 m_thrown2_1 a_tape m_taped m_size m_at m_end m_token m_whole m_nameSize m_fault m_place m_trouble2_2 a_letters m_failed m_hasHouse a_r a_fresh a_st a_undone a_kept m_undos m_images a_from a_begin a_motor a_change a_startFrame a_changeFrame a_lostAt a_blackAt a_slips a_leftArc a_died a_arcs m_bestSum m_nearest m_nearestTown a_there a_backAt a_sorted a_parts m_seed1 m_darkNow d_st) dX11_pays_14 mw682 mw683 mw684 mw5 mw685 rfl 11 rfl rfl 0 _ rfl yk_yX11_isMended_1 rfl (Nat.le_of_ble_eq_true rfl) (Nat.le_of_ble_eq_true rfl) (Nat.le_of_ble_eq_true rfl) (Nat.le_of_ble_eq_true rfl) (Nat.le_of_ble_eq_true rfl) rfl rfl (by decide) rfl (by decide) (by decide) ?_
    rintro r_15 w ⟨iv_16, rfl⟩
    refine k_ws [(cAI g a_r 311 d_r), (cO11_i1r1i10r1i2r5i2r12i3r4i2 h0 m_thrown2_1 a_tape m_taped m_size m_at m_end m_token m_whole m_nameSize m_fault m_place m_trouble2_2 a_letters m_failed m_hasHouse a_r a_fresh a_st a_undone a_kept m_undos m_images a_from a_begin a_motor a_change a_startFrame a_changeFrame a_lostAt a_blackAt a_slips a_leftArc a_died a_arcs m_bestSum m_nearest m_nearestTown a_there a_backAt a_sorted a_parts m_seed1 m_darkNow), (cAI g a_st 44 d_st)] rfl ?_
    refine k_if_eq 26 X dX11_pays_17 (by decide) (fun h_17 => ?_) (fun h_17 => ?_)
    · skip
      have iv_18 : IV r_15 0 0 := iv_meet iv_16 (iv_e h_17 (show IV 0 0 0 from (by decide))) (by decide) (by decide)
      refine k_iload_n X dX11_pays_26 2 rfl ?_
      refine k_iconst (v := 0) X dX11_pays_27 (by decide) ?_
      refine k_iconst (v := 4) X dX11_pays_28 (by decide) ?_
      refine k_callSI (n := 3) (As := [.int p1, .int 0, .int 4]) (st := []) X [] [(cAI g a_r 311 d_r), (cO11_i1r1i10r1i2r5i2r12i3r4i2 h0 m_thrown2_1 a_tape m_taped m_size m_at m_end m_token m_whole m_nameSize m_fault m_place m_trouble2_2 a_letters m_failed m_hasHouse a_r a_fresh a_st a_undone a_kept m_undos m_images a_from a_begin a_motor a_change a_startFrame a_changeFrame a_lostAt a_blackAt a_slips a_leftArc a_died a_arcs m_bestSum m_nearest m_nearestTown a_there a_backAt a_sorted a_parts m_seed1 m_darkNow), (cAI g a_st 44 d_st)] [] [0, 1, 2] (m_in l g p1 0 4) dX11_pays_29 mw482 mw483 mw5 mw484 yk_yX11_in_3 rfl (Nat.le_of_ble_eq_true rfl) (Nat.le_of_ble_eq_true rfl) (Nat.le_of_ble_eq_true rfl) (Nat.le_of_ble_eq_true rfl) (Nat.le_of_ble_eq_true rfl) rfl rfl (by decide) rfl (by decide) (by decide) ?_
      rintro r_19 w ⟨iv_20, hk_21, hk_22, rfl⟩
      refine k_ws [(cAI g a_r 311 d_r), (cO11_i1r1i10r1i2r5i2r12i3r4i2 h0 m_thrown2_1 a_tape m_taped m_size m_at m_end m_token m_whole m_nameSize m_fault m_place m_trouble2_2 a_letters m_failed m_hasHouse a_r a_fresh a_st a_undone a_kept m_undos m_images a_from a_begin a_motor a_change a_startFrame a_changeFrame a_lostAt a_blackAt a_slips a_leftArc a_died a_arcs m_bestSum m_nearest m_nearestTown a_there a_backAt a_sorted a_parts m_seed1 m_darkNow), (cAI g a_st 44 d_st)] rfl ?_
      refine k_if_ne 41 X dX11_pays_32 (by decide) (fun h_23 => ?_) (fun h_23 => ?_)
      · skip
        have hc_24 := hk_21.resolve_left h_23
        have j_25 : 0 ≤ p1.toInt := hc_24.1
        have iv_26 : IV p1 0 2147483647 := iv_leR hc_24.1 (show IV 0 0 0 from (by decide)) (iv_any p1) (by decide)
        have j_27 : p1.toInt ≤ 4 := hc_24.2
        have iv_28 : IV p1 0 4 := iv_leL hc_24.2 iv_26 (show IV 4 4 4 from (by decide)) (by decide)
        have iv_29 : IV r_19 1 1 := iv_neL h_23 iv_20 (show IV 0 0 0 from (by decide)) (by decide)
        refine k_bipush (v := 100) X dX11_pays_41 (by decide) ?_
        refine k_iload_n X dX11_pays_43 2 rfl ?_
        refine k_callSL (n := 2) (As := [.int 100, .int p1]) (st := []) X [] [(cAI g a_r 311 d_r), (cO11_i1r1i10r1i2r5i2r12i3r4i2 h0 m_thrown2_1 a_tape m_taped m_size m_at m_end m_token m_whole m_nameSize m_fault m_place m_trouble2_2 a_letters m_failed m_hasHouse a_r a_fresh a_st a_undone a_kept m_undos m_images a_from a_begin a_motor a_change a_startFrame a_changeFrame a_lostAt a_blackAt a_slips a_leftArc a_died a_arcs m_bestSum m_nearest m_nearestTown a_there a_backAt a_sorted a_parts m_seed1 m_darkNow), (cAI g a_st 44 d_st)] [] [0, 1, 2] (m_powerH l g p1 (iv_w iv_28 (by decide) (by decide))) dX11_pays_44 mw1256 mw1257 mw5 mw1258 yk_yX11_power_2 rfl (Nat.le_of_ble_eq_true rfl) (Nat.le_of_ble_eq_true rfl) (Nat.le_of_ble_eq_true rfl) (Nat.le_of_ble_eq_true rfl) (Nat.le_of_ble_eq_true rfl) rfl rfl (by decide) rfl (by decide) (by decide) ?_
        rintro r_30 w ⟨hq_31, rfl⟩
        refine k_ws [(cAI g a_r 311 d_r), (cO11_i1r1i10r1i2r5i2r12i3r4i2 h0 m_thrown2_1 a_tape m_taped m_size m_at m_end m_token m_whole m_nameSize m_fault m_place m_trouble2_2 a_letters m_failed m_hasHouse a_r a_fresh a_st a_undone a_kept m_undos m_images a_from a_begin a_motor a_change a_startFrame a_changeFrame a_lostAt a_blackAt a_slips a_leftArc a_died a_arcs m_bestSum m_nearest m_nearestTown a_there a_backAt a_sorted a_parts m_seed1 m_darkNow), (cAI g a_st 44 d_st)] rfl ?_
        refine k_lstore_n [(3, .long r_30), (0, .ref h0), (1, .int p0), (2, .int p1)] X dX11_pays_47 (by decide) rfl ?_
        refine k_aload_n X dX11_pays_48 1 rfl ?_
        refine k_get (ci := 11) X inlX11 rfl 15 (by decide) dX11_pays_49 mw170 1 rfl rfl ?_
        refine k_iconst (v := 5) X dX11_pays_52 (by decide) ?_
        refine k_iald X dX11_pays_53 0 rfl (by unfold vp_in; decide) ?_
        refine k_nm (fun z_32 ez_32 => ?_)
        refine k_i2l X dX11_pays_54 ?_
        refine k_nmL (fun y_33 ey_33 => ?_)
        refine k_lload_n X dX11_pays_55 0 rfl ?_
        refine k_bipush (v := 100) X dX11_pays_56 (by decide) ?_
        refine k_aload_n X dX11_pays_58 1 rfl ?_
        refine k_get (ci := 11) X inlX11 rfl 15 (by decide) dX11_pays_59 mw170 1 rfl rfl ?_
        refine k_bipush (v := 96) X dX11_pays_62 (by decide) ?_
        refine k_iconst (v := 3) X dX11_pays_64 (by decide) ?_
        refine k_iload_n X dX11_pays_65 2 rfl ?_
        refine k_imul X dX11_pays_66 ?_
        refine k_nm (fun z_34 ez_34 => ?_)
        have i_35 : z_34.toInt = 3 * p0.toInt := in_mul ez_34 (by decide) (by decide) iv_13 (by decide) (by decide)
        have iv_36 : IV z_34 0 15 := iz4 i_35 iv_13 (by decide) (by decide) (by decide)
        refine k_iadd X dX11_pays_67 ?_
        refine k_nm (fun z_37 ez_37 => ?_)
        have i_38 : z_37.toInt = 96 + z_34.toInt := in_add ez_37 (show IV 96 96 96 from (by decide)) iv_36 (by decide) (by decide)
        have iv_39 : IV z_37 96 111 := iz2 i_38 iv_36 (by decide) (by decide)
        refine k_iconst (v := 2) X dX11_pays_68 (by decide) ?_
        refine k_iadd X dX11_pays_69 ?_
        refine k_nm (fun z_40 ez_40 => ?_)
        have i_41 : z_40.toInt = z_37.toInt + 2 := in_add ez_40 iv_39 (show IV 2 2 2 from (by decide)) (by decide) (by decide)
        have iv_42 : IV z_40 98 113 := iz1 i_41 iv_39 (by decide) (by decide)
        refine k_iald X dX11_pays_70 0 rfl (iv_in iv_42 (by decide) (by decide)) ?_
        refine k_nm (fun z_43 ez_43 => ?_)
        refine k_isub X dX11_pays_71 ?_
        refine k_nm (fun z_44 ez_44 => ?_)
        refine k_iload_n X dX11_pays_72 3 rfl ?_
        refine k_callSL (n := 2) (As := [.int z_44, .int p1]) (st := [.long r_30, .long y_33]) X [] [(cAI g a_r 311 d_r), (cO11_i1r1i10r1i2r5i2r12i3r4i2 h0 m_thrown2_1 a_tape m_taped m_size m_at m_end m_token m_whole m_nameSize m_fault m_place m_trouble2_2 a_letters m_failed m_hasHouse a_r a_fresh a_st a_undone a_kept m_undos m_images a_from a_begin a_motor a_change a_startFrame a_changeFrame a_lostAt a_blackAt a_slips a_leftArc a_died a_arcs m_bestSum m_nearest m_nearestTown a_there a_backAt a_sorted a_parts m_seed1 m_darkNow), (cAI g a_st 44 d_st)] [] [0, 1, 2] (m_power l g z_44 p1) dX11_pays_73 mw1256 mw1257 mw5 mw1258 yk_yX11_power_2 rfl (Nat.le_of_ble_eq_true rfl) (Nat.le_of_ble_eq_true rfl) (Nat.le_of_ble_eq_true rfl) (Nat.le_of_ble_eq_true rfl) (Nat.le_of_ble_eq_true rfl) rfl rfl (by decide) rfl (by decide) (by decide) ?_
        rintro r_46 w rfl
        refine k_ws [(cAI g a_r 311 d_r), (cO11_i1r1i10r1i2r5i2r12i3r4i2 h0 m_thrown2_1 a_tape m_taped m_size m_at m_end m_token m_whole m_nameSize m_fault m_place m_trouble2_2 a_letters m_failed m_hasHouse a_r a_fresh a_st a_undone a_kept m_undos m_images a_from a_begin a_motor a_change a_startFrame a_changeFrame a_lostAt a_blackAt a_slips a_leftArc a_died a_arcs m_bestSum m_nearest m_nearestTown a_there a_backAt a_sorted a_parts m_seed1 m_darkNow), (cAI g a_st 44 d_st)] rfl ?_
        refine k_lsub X dX11_pays_76 ?_
        refine k_nmL (fun y_47 ey_47 => ?_)
        refine k_lmul X dX11_pays_77 ?_
        refine k_nmL (fun y_48 ey_48 => ?_)
        refine k_ldc2 (v := 2) X dX11_pays_78 mw1269 ?_
        refine k_lload_n X dX11_pays_81 0 rfl ?_
        refine k_lmul X dX11_pays_82 ?_
        refine k_nmL (fun y_49 ey_49 => ?_)
        refine k_lcmp X dX11_pays_83 ?_
        refine k_nm (fun z_50 ez_50 => ?_)
        refine k_if_le 91 X dX11_pays_84 (by decide) (fun h_51 => ?_) (fun h_51 => ?_)
        · skip
          have j_52 : z_50.toInt ≤ 0 := iv_le h_51
          have iv_53 : IV z_50 (-2147483648) 0 := iv_leL (iv_le h_51) (iv_any z_50) (show IV 0 0 0 from (by decide)) (by decide)
          refine k_iconst (v := 0) X dX11_pays_91 (by decide) ?_
          exact k_iret X hr dX11_pays_92 (Nat.le_of_ble_eq_true rfl) (Nat.le_of_ble_eq_true rfl) [1, 0, 2] (by decide) rfl rfl ⟨m_thrown2_1, m_trouble2_2, rfl⟩
        · skip
          have j_54 : 0 < z_50.toInt := iv_nle h_51
          have iv_55 : IV z_50 1 2147483647 := iv_ltR (iv_nle h_51) (show IV 0 0 0 from (by decide)) (iv_any z_50) (by decide)
          refine k_iconst (v := 1) X dX11_pays_87 (by decide) ?_
          refine k_goto 92 X dX11_pays_88 (by decide) ?_
          exact k_iret X hr dX11_pays_92 (Nat.le_of_ble_eq_true rfl) (Nat.le_of_ble_eq_true rfl) [1, 0, 2] (by decide) rfl rfl ⟨m_thrown2_1, m_trouble2_2, rfl⟩
      · skip
        have iv_56 : IV r_19 0 0 := iv_meet iv_20 (iv_e h_23 (show IV 0 0 0 from (by decide))) (by decide) (by decide)
        have hc_57 := hk_22 (iv_eq iv_56 (show IV 0 0 0 from (by decide)))
        have j_58 : p1.toInt < 0 ∨ 4 < p1.toInt := hc_57
        refine k_aload_n X dX11_pays_35 0 rfl ?_
        refine k_iconst (v := 2) X dX11_pays_36 (by decide) ?_
        refine k_callVI (n := 1) (As := [.int 2]) (st := []) X [(cO11_i1r1i10r1i2r5i2r12i3r4i2 h0 m_thrown2_1 a_tape m_taped m_size m_at m_end m_token m_whole m_nameSize m_fault m_place m_trouble2_2 a_letters m_failed m_hasHouse a_r a_fresh a_st a_undone a_kept m_undos m_images a_from a_begin a_motor a_change a_startFrame a_changeFrame a_lostAt a_blackAt a_slips a_leftArc a_died a_arcs m_bestSum m_nearest m_nearestTown a_there a_backAt a_sorted a_parts m_seed1 m_darkNow)] [(cAI g a_r 311 d_r), (cAI g a_st 44 d_st)] [1] [0, 2] (m_no l g h0 2 m_thrown2_1 a_tape m_taped m_size m_at m_end m_token m_whole m_nameSize m_fault m_place m_trouble2_2 a_letters m_failed m_hasHouse a_r a_fresh a_st a_undone a_kept m_undos m_images a_from a_begin a_motor a_change a_startFrame a_changeFrame a_lostAt a_blackAt a_slips a_leftArc a_died a_arcs m_bestSum m_nearest m_nearestTown a_there a_backAt a_sorted a_parts m_seed1 m_darkNow) dX11_pays_37 mw485 mw486 mw487 mw5 mw488 rfl 11 rfl rfl 0 _ rfl yk_yX11_no_1 rfl (Nat.le_of_ble_eq_true rfl) (Nat.le_of_ble_eq_true rfl) (Nat.le_of_ble_eq_true rfl) (Nat.le_of_ble_eq_true rfl) (Nat.le_of_ble_eq_true rfl) rfl rfl (by decide) rfl (by decide) (by decide) ?_
        rintro r_60 w ⟨m_trouble2_59, iv_61, rfl⟩
        refine k_ws [(cAI g a_r 311 d_r), (cAI g a_st 44 d_st), (cO11_i1r1i10r1i2r5i2r12i3r4i2 h0 m_thrown2_1 a_tape m_taped m_size m_at m_end m_token m_whole m_nameSize m_fault m_place m_trouble2_59 a_letters m_failed m_hasHouse a_r a_fresh a_st a_undone a_kept m_undos m_images a_from a_begin a_motor a_change a_startFrame a_changeFrame a_lostAt a_blackAt a_slips a_leftArc a_died a_arcs m_bestSum m_nearest m_nearestTown a_there a_backAt a_sorted a_parts m_seed1 m_darkNow)] rfl ?_
        exact k_iret X hr dX11_pays_40 (Nat.le_of_ble_eq_true rfl) (Nat.le_of_ble_eq_true rfl) [2, 0, 1] (by decide) rfl rfl ⟨m_thrown2_1, m_trouble2_59, rfl⟩
    · skip
      have iv_62 : IV r_15 1 1 := iv_neL h_17 iv_16 (show IV 0 0 0 from (by decide)) (by decide)
      refine k_aload_n X dX11_pays_20 0 rfl ?_
      refine k_iconst (v := 1) X dX11_pays_21 (by decide) ?_
      refine k_callVI (n := 1) (As := [.int 1]) (st := []) X [(cO11_i1r1i10r1i2r5i2r12i3r4i2 h0 m_thrown2_1 a_tape m_taped m_size m_at m_end m_token m_whole m_nameSize m_fault m_place m_trouble2_2 a_letters m_failed m_hasHouse a_r a_fresh a_st a_undone a_kept m_undos m_images a_from a_begin a_motor a_change a_startFrame a_changeFrame a_lostAt a_blackAt a_slips a_leftArc a_died a_arcs m_bestSum m_nearest m_nearestTown a_there a_backAt a_sorted a_parts m_seed1 m_darkNow)] [(cAI g a_r 311 d_r), (cAI g a_st 44 d_st)] [1] [0, 2] (m_no l g h0 1 m_thrown2_1 a_tape m_taped m_size m_at m_end m_token m_whole m_nameSize m_fault m_place m_trouble2_2 a_letters m_failed m_hasHouse a_r a_fresh a_st a_undone a_kept m_undos m_images a_from a_begin a_motor a_change a_startFrame a_changeFrame a_lostAt a_blackAt a_slips a_leftArc a_died a_arcs m_bestSum m_nearest m_nearestTown a_there a_backAt a_sorted a_parts m_seed1 m_darkNow) dX11_pays_22 mw485 mw486 mw487 mw5 mw488 rfl 11 rfl rfl 0 _ rfl yk_yX11_no_1 rfl (Nat.le_of_ble_eq_true rfl) (Nat.le_of_ble_eq_true rfl) (Nat.le_of_ble_eq_true rfl) (Nat.le_of_ble_eq_true rfl) (Nat.le_of_ble_eq_true rfl) rfl rfl (by decide) rfl (by decide) (by decide) ?_
      rintro r_64 w ⟨m_trouble2_63, iv_65, rfl⟩
      refine k_ws [(cAI g a_r 311 d_r), (cAI g a_st 44 d_st), (cO11_i1r1i10r1i2r5i2r12i3r4i2 h0 m_thrown2_1 a_tape m_taped m_size m_at m_end m_token m_whole m_nameSize m_fault m_place m_trouble2_63 a_letters m_failed m_hasHouse a_r a_fresh a_st a_undone a_kept m_undos m_images a_from a_begin a_motor a_change a_startFrame a_changeFrame a_lostAt a_blackAt a_slips a_leftArc a_died a_arcs m_bestSum m_nearest m_nearestTown a_there a_backAt a_sorted a_parts m_seed1 m_darkNow)] rfl ?_
      exact k_iret X hr dX11_pays_25 (Nat.le_of_ble_eq_true rfl) (Nat.le_of_ble_eq_true rfl) [2, 0, 1] (by decide) rfl rfl ⟨m_thrown2_1, m_trouble2_63, rfl⟩

theorem dX11_wears_0 : decode cX11_wears 0 = .ok (.aload_n 0, 1) := dk_42 rfl
theorem dX11_wears_1 : decode cX11_wears 1 = .ok (.invokevirtual 200, 3) := dk_182 rfl rfl rfl rfl
theorem dX11_wears_4 : decode cX11_wears 4 = .ok (.aload_n 0, 1) := dk_42 rfl
theorem dX11_wears_5 : decode cX11_wears 5 = .ok (.iload_n 1, 1) := dk_27 rfl
theorem dX11_wears_6 : decode cX11_wears 6 = .ok (.invokevirtual 327, 3) := dk_182 rfl rfl rfl rfl
theorem dX11_wears_9 : decode cX11_wears 9 = .ok (.ifCond .ne 10, 3) := dk_154 rfl rfl rfl (by decide)
theorem dX11_wears_12 : decode cX11_wears 12 = .ok (.aload_n 0, 1) := dk_42 rfl
theorem dX11_wears_13 : decode cX11_wears 13 = .ok (.iconst 1, 1) := dk_4 rfl
theorem dX11_wears_14 : decode cX11_wears 14 = .ok (.invokevirtual 203, 3) := dk_182 rfl rfl rfl rfl
theorem dX11_wears_17 : decode cX11_wears 17 = .ok (.i2l, 1) := dk_133 rfl
theorem dX11_wears_18 : decode cX11_wears 18 = .ok (.lreturn, 1) := dk_173 rfl
theorem dX11_wears_19 : decode cX11_wears 19 = .ok (.iload_n 2, 1) := dk_28 rfl
theorem dX11_wears_20 : decode cX11_wears 20 = .ok (.iconst 0, 1) := dk_3 rfl
theorem dX11_wears_21 : decode cX11_wears 21 = .ok (.bipush 99, 2) := dk_16 rfl rfl (by decide)
theorem dX11_wears_23 : decode cX11_wears 23 = .ok (.invokestatic 182, 3) := dk_184 rfl rfl rfl rfl
theorem dX11_wears_26 : decode cX11_wears 26 = .ok (.ifCond .ne 10, 3) := dk_154 rfl rfl rfl (by decide)
theorem dX11_wears_29 : decode cX11_wears 29 = .ok (.aload_n 0, 1) := dk_42 rfl
theorem dX11_wears_30 : decode cX11_wears 30 = .ok (.iconst 2, 1) := dk_5 rfl
theorem dX11_wears_31 : decode cX11_wears 31 = .ok (.invokevirtual 203, 3) := dk_182 rfl rfl rfl rfl
theorem dX11_wears_34 : decode cX11_wears 34 = .ok (.i2l, 1) := dk_133 rfl
theorem dX11_wears_35 : decode cX11_wears 35 = .ok (.lreturn, 1) := dk_173 rfl
theorem dX11_wears_36 : decode cX11_wears 36 = .ok (.lconst 0, 1) := dk_9 rfl
theorem dX11_wears_37 : decode cX11_wears 37 = .ok (.lstore 4, 2) := dk_55 rfl rfl rfl
theorem dX11_wears_39 : decode cX11_wears 39 = .ok (.iconst 0, 1) := dk_3 rfl
theorem dX11_wears_40 : decode cX11_wears 40 = .ok (.istore 6, 2) := dk_54 rfl rfl rfl
theorem dX11_wears_42 : decode cX11_wears 42 = .ok (.iload 6, 2) := dk_21 rfl rfl rfl
theorem dX11_wears_44 : decode cX11_wears 44 = .ok (.aload_n 0, 1) := dk_42 rfl
theorem dX11_wears_45 : decode cX11_wears 45 = .ok (.getfield 20, 3) := dk_180 rfl rfl rfl rfl
theorem dX11_wears_48 : decode cX11_wears 48 = .ok (.bipush 10, 2) := dk_16 rfl rfl (by decide)
theorem dX11_wears_50 : decode cX11_wears 50 = .ok (.iaload, 1) := dk_46 rfl
theorem dX11_wears_51 : decode cX11_wears 51 = .ok (.if_icmp .ge 58, 3) := dk_162 rfl rfl rfl (by decide)
theorem dX11_wears_54 : decode cX11_wears 54 = .ok (.lload 4, 2) := dk_22 rfl rfl rfl
theorem dX11_wears_56 : decode cX11_wears 56 = .ok (.aload_n 0, 1) := dk_42 rfl
theorem dX11_wears_57 : decode cX11_wears 57 = .ok (.iload 6, 2) := dk_21 rfl rfl rfl
theorem dX11_wears_59 : decode cX11_wears 59 = .ok (.invokevirtual 339, 3) := dk_182 rfl rfl rfl rfl
theorem dX11_wears_62 : decode cX11_wears 62 = .ok (.ifCond .ne 37, 3) := dk_154 rfl rfl rfl (by decide)
theorem dX11_wears_65 : decode cX11_wears 65 = .ok (.aload_n 0, 1) := dk_42 rfl
theorem dX11_wears_66 : decode cX11_wears 66 = .ok (.getfield 20, 3) := dk_180 rfl rfl rfl rfl
theorem dX11_wears_69 : decode cX11_wears 69 = .ok (.bipush 96, 2) := dk_16 rfl rfl (by decide)
theorem dX11_wears_71 : decode cX11_wears 71 = .ok (.iconst 3, 1) := dk_6 rfl
theorem dX11_wears_72 : decode cX11_wears 72 = .ok (.iload 6, 2) := dk_21 rfl rfl rfl
theorem dX11_wears_74 : decode cX11_wears 74 = .ok (.imul, 1) := dk_104 rfl
theorem dX11_wears_75 : decode cX11_wears 75 = .ok (.iadd, 1) := dk_96 rfl
theorem dX11_wears_76 : decode cX11_wears 76 = .ok (.iaload, 1) := dk_46 rfl
theorem dX11_wears_77 : decode cX11_wears 77 = .ok (.iload_n 1, 1) := dk_27 rfl
theorem dX11_wears_78 : decode cX11_wears 78 = .ok (.if_icmp .ne 21, 3) := dk_160 rfl rfl rfl (by decide)
theorem dX11_wears_81 : decode cX11_wears 81 = .ok (.aload_n 0, 1) := dk_42 rfl
theorem dX11_wears_82 : decode cX11_wears 82 = .ok (.getfield 20, 3) := dk_180 rfl rfl rfl rfl
theorem dX11_wears_85 : decode cX11_wears 85 = .ok (.bipush 96, 2) := dk_16 rfl rfl (by decide)
theorem dX11_wears_87 : decode cX11_wears 87 = .ok (.iconst 3, 1) := dk_6 rfl
theorem dX11_wears_88 : decode cX11_wears 88 = .ok (.iload 6, 2) := dk_21 rfl rfl rfl
theorem dX11_wears_90 : decode cX11_wears 90 = .ok (.imul, 1) := dk_104 rfl
theorem dX11_wears_91 : decode cX11_wears 91 = .ok (.iadd, 1) := dk_96 rfl
theorem dX11_wears_92 : decode cX11_wears 92 = .ok (.iconst 2, 1) := dk_5 rfl
theorem dX11_wears_93 : decode cX11_wears 93 = .ok (.iadd, 1) := dk_96 rfl
theorem dX11_wears_94 : decode cX11_wears 94 = .ok (.iaload, 1) := dk_46 rfl
theorem dX11_wears_95 : decode cX11_wears 95 = .ok (.i2l, 1) := dk_133 rfl
theorem dX11_wears_96 : decode cX11_wears 96 = .ok (.goto 4, 3) := dk_167 rfl rfl rfl (by decide)
theorem dX11_wears_99 : decode cX11_wears 99 = .ok (.lconst 0, 1) := by decide +kernel
theorem dX11_wears_100 : decode cX11_wears 100 = .ok (.ladd, 1) := by decide +kernel
theorem dX11_wears_101 : decode cX11_wears 101 = .ok (.lstore 4, 2) := by decide +kernel
theorem dX11_wears_103 : decode cX11_wears 103 = .ok (.iinc 6 1, 3) := by decide +kernel
theorem dX11_wears_106 : decode cX11_wears 106 = .ok (.goto (-64), 3) := by decide +kernel
theorem dX11_wears_109 : decode cX11_wears 109 = .ok (.ldc2_w 418, 3) := by decide +kernel
theorem dX11_wears_112 : decode cX11_wears 112 = .ok (.iload_n 2, 1) := by decide +kernel
theorem dX11_wears_113 : decode cX11_wears 113 = .ok (.i2l, 1) := by decide +kernel
theorem dX11_wears_114 : decode cX11_wears 114 = .ok (.lmul, 1) := by decide +kernel
theorem dX11_wears_115 : decode cX11_wears 115 = .ok (.lload 4, 2) := by decide +kernel
theorem dX11_wears_117 : decode cX11_wears 117 = .ok (.lmul, 1) := by decide +kernel
theorem dX11_wears_118 : decode cX11_wears 118 = .ok (.ldc2_w 420, 3) := by decide +kernel
theorem dX11_wears_121 : decode cX11_wears 121 = .ok (.iload_n 3, 1) := by decide +kernel
theorem dX11_wears_122 : decode cX11_wears 122 = .ok (.invokestatic 408, 3) := by decide +kernel
theorem dX11_wears_125 : decode cX11_wears 125 = .ok (.lreturn, 1) := by decide +kernel
set_option maxHeartbeats 4000000 in
set_option maxRecDepth 100000 in
theorem m_wears (l : Launch) (g : Gx) (h0 : Nat) (p0 : Int32) (p1 : Int32) (p2 : Int32) (m_thrown : Int32) (a_tape : Nat) (m_taped : Int32) (m_size : Int32) (m_at : Int32) (m_end : Int32) (m_token : Int32) (m_whole : Int32) (m_nameSize : Int32) (m_fault : Int32) (m_place : Int32) (m_trouble : Int32) (a_letters : Nat) (m_failed : Int32) (m_hasHouse : Int32) (a_r : Nat) (a_fresh : Nat) (a_st : Nat) (a_undone : Nat) (a_kept : Nat) (m_undos : Int32) (m_images : Int32) (a_from : Nat) (a_begin : Nat) (a_motor : Nat) (a_change : Nat) (a_startFrame : Nat) (a_changeFrame : Nat) (a_lostAt : Nat) (a_blackAt : Nat) (a_slips : Nat) (a_leftArc : Nat) (a_died : Nat) (a_arcs : Nat) (m_bestSum : Int32) (m_nearest : Int32) (m_nearestTown : Int32) (a_there : Nat) (a_backAt : Nat) (a_sorted : Nat) (a_parts : Nat) (m_seed1 : Int32) (m_darkNow : Int32) (d_r : Nat → Int32) (d_st : Nat → Int32) (hv_m_hasHouse : IV m_hasHouse 0 1) (hp_d_r : RInv d_r) : cL l g yX11_wears cX11_wears 7 (some .long) 2 43 0 0 [.ref h0, .int p0, .int p1, .int p2] [(cO11_i1r1i10r1i2r5i2r12i3r4i2 h0 m_thrown a_tape m_taped m_size m_at m_end m_token m_whole m_nameSize m_fault m_place m_trouble a_letters m_failed m_hasHouse a_r a_fresh a_st a_undone a_kept m_undos m_images a_from a_begin a_motor a_change a_startFrame a_changeFrame a_lostAt a_blackAt a_slips a_leftArc a_died a_arcs m_bestSum m_nearest m_nearestTown a_there a_backAt a_sorted a_parts m_seed1 m_darkNow), (cAI g a_r 311 d_r), (cAI g a_st 44 d_st)] (fun r w => ∃ (m_thrown2 : Int32) (m_trouble2 : Int32), w = [(cO11_i1r1i10r1i2r5i2r12i3r4i2 h0 m_thrown2 a_tape m_taped m_size m_at m_end m_token m_whole m_nameSize m_fault m_place m_trouble2 a_letters m_failed m_hasHouse a_r a_fresh a_st a_undone a_kept m_undos m_images a_from a_begin a_motor a_change a_startFrame a_changeFrame a_lostAt a_blackAt a_slips a_leftArc a_died a_arcs m_bestSum m_nearest m_nearestTown a_there a_backAt a_sorted a_parts m_seed1 m_darkNow), (cAI g a_r 311 d_r), (cAI g a_st 44 d_st)]) := by
  refine cL.of (by decide) (Nat.le_of_ble_eq_true rfl) ?_
  intro p e s m args below meth c A X hr hi
  refine k_lveq [(0, .ref h0), (1, .int p0), (2, .int p1), (3, .int p2)] rfl ?_
  refine k_aload_n X dX11_wears_0 0 rfl ?_
  refine k_callVV (n := 0) (As := []) (st := []) X [(cO11_i1r1i10r1i2r5i2r12i3r4i2 h0 m_thrown a_tape m_taped m_size m_at m_end m_token m_whole m_nameSize m_fault m_place m_trouble a_letters m_failed m_hasHouse a_r a_fresh a_st a_undone a_kept m_undos m_images a_from a_begin a_motor a_change a_startFrame a_changeFrame a_lostAt a_blackAt a_slips a_leftArc a_died a_arcs m_bestSum m_nearest m_nearestTown a_there a_backAt a_sorted a_parts m_seed1 m_darkNow)] [(cAI g a_r 311 d_r), (cAI g a_st 44 d_st)] [0] [1, 2] (m_good l g h0 m_thrown a_tape m_taped m_size m_at m_end m_token m_whole m_nameSize m_fault m_place m_trouble a_letters m_failed m_hasHouse a_r a_fresh a_st a_undone a_kept m_undos m_images a_from a_begin a_motor a_change a_startFrame a_changeFrame a_lostAt a_blackAt a_slips a_leftArc a_died a_arcs m_bestSum m_nearest m_nearestTown a_there a_backAt a_sorted a_parts m_seed1 m_darkNow) dX11_wears_1 mw477 mw478 mw479 mw5 mw480 rfl 11 rfl rfl 0 _ rfl yk_yX11_good_0 rfl (Nat.le_of_ble_eq_true rfl) (Nat.le_of_ble_eq_true rfl) (Nat.le_of_ble_eq_true rfl) (Nat.le_of_ble_eq_true rfl) (Nat.le_of_ble_eq_true rfl) rfl rfl (by decide) rfl (by decide) (by decide) ?_
  rintro w ⟨m_thrown2_1, m_trouble2_2, rfl⟩
  refine k_ws [(cAI g a_r 311 d_r), (cAI g a_st 44 d_st), (cO11_i1r1i10r1i2r5i2r12i3r4i2 h0 m_thrown2_1 a_tape m_taped m_size m_at m_end m_token m_whole m_nameSize m_fault m_place m_trouble2_2 a_letters m_failed m_hasHouse a_r a_fresh a_st a_undone a_kept m_undos m_images a_from a_begin a_motor a_change a_startFrame a_changeFrame a_lostAt a_blackAt a_slips a_leftArc a_died a_arcs m_bestSum m_nearest m_nearestTown a_there a_backAt a_sorted a_parts m_seed1 m_darkNow)] rfl ?_
  refine k_aload_n X dX11_wears_4 0 rfl ?_
  refine k_iload_n X dX11_wears_5 1 rfl ?_
  refine k_callVI (n := 1) (As := [.int p0]) (st := []) X [(cO11_i1r1i10r1i2r5i2r12i3r4i2 h0 m_thrown2_1 a_tape m_taped m_size m_at m_end m_token m_whole m_nameSize m_fault m_place m_trouble2_2 a_letters m_failed m_hasHouse a_r a_fresh a_st a_undone a_kept m_undos m_images a_from a_begin a_motor a_change a_startFrame a_changeFrame a_lostAt a_blackAt a_slips a_leftArc a_died a_arcs m_bestSum m_nearest m_nearestTown a_there a_backAt a_sorted a_parts m_seed1 m_darkNow), (cAI g a_r 311 d_r)] [(cAI g a_st 44 d_st)] [2, 0] [1] (m_isReel l g h0 p0 m_thrown2_1 a_tape m_taped m_size m_at m_end m_token m_whole m_nameSize m_fault m_place m_trouble2_2 a_letters m_failed m_hasHouse a_r a_fresh a_st a_undone a_kept m_undos m_images a_from a_begin a_motor a_change a_startFrame a_changeFrame a_lostAt a_blackAt a_slips a_leftArc a_died a_arcs m_bestSum m_nearest m_nearestTown a_there a_backAt a_sorted a_parts m_seed1 m_darkNow d_r (iv_w hv_m_hasHouse (by decide) (by decide)) hp_d_r) dX11_wears_6 mw670 mw671 mw672 mw5 mw673 rfl 11 rfl rfl 0 _ rfl yk_yX11_isReel_1 rfl (Nat.le_of_ble_eq_true rfl) (Nat.le_of_ble_eq_true rfl) (Nat.le_of_ble_eq_true rfl) (Nat.le_of_ble_eq_true rfl) (Nat.le_of_ble_eq_true rfl) rfl rfl (by decide) rfl (by decide) (by decide) ?_
  rintro r_4 w ⟨iv_5, hk_6, rfl⟩
  refine k_ws [(cAI g a_st 44 d_st), (cO11_i1r1i10r1i2r5i2r12i3r4i2 h0 m_thrown2_1 a_tape m_taped m_size m_at m_end m_token m_whole m_nameSize m_fault m_place m_trouble2_2 a_letters m_failed m_hasHouse a_r a_fresh a_st a_undone a_kept m_undos m_images a_from a_begin a_motor a_change a_startFrame a_changeFrame a_lostAt a_blackAt a_slips a_leftArc a_died a_arcs m_bestSum m_nearest m_nearestTown a_there a_backAt a_sorted a_parts m_seed1 m_darkNow), (cAI g a_r 311 d_r)] rfl ?_
  refine k_if_ne 19 X dX11_wears_9 (by decide) (fun h_7 => ?_) (fun h_7 => ?_)
  · skip
    have hc_8 := hk_6.resolve_left h_7
    have iv_9 : IV p0 0 7 := iv_meet (iv_any p0) hc_8 (by decide) (by decide)
    have iv_10 : IV r_4 1 1 := iv_neL h_7 iv_5 (show IV 0 0 0 from (by decide)) (by decide)
    refine k_iload_n X dX11_wears_19 2 rfl ?_
    refine k_iconst (v := 0) X dX11_wears_20 (by decide) ?_
    refine k_bipush (v := 99) X dX11_wears_21 (by decide) ?_
    refine k_callSI (n := 3) (As := [.int p1, .int 0, .int 99]) (st := []) X [] [(cAI g a_st 44 d_st), (cO11_i1r1i10r1i2r5i2r12i3r4i2 h0 m_thrown2_1 a_tape m_taped m_size m_at m_end m_token m_whole m_nameSize m_fault m_place m_trouble2_2 a_letters m_failed m_hasHouse a_r a_fresh a_st a_undone a_kept m_undos m_images a_from a_begin a_motor a_change a_startFrame a_changeFrame a_lostAt a_blackAt a_slips a_leftArc a_died a_arcs m_bestSum m_nearest m_nearestTown a_there a_backAt a_sorted a_parts m_seed1 m_darkNow), (cAI g a_r 311 d_r)] [] [0, 1, 2] (m_in l g p1 0 99) dX11_wears_23 mw482 mw483 mw5 mw484 yk_yX11_in_3 rfl (Nat.le_of_ble_eq_true rfl) (Nat.le_of_ble_eq_true rfl) (Nat.le_of_ble_eq_true rfl) (Nat.le_of_ble_eq_true rfl) (Nat.le_of_ble_eq_true rfl) rfl rfl (by decide) rfl (by decide) (by decide) ?_
    rintro r_11 w ⟨iv_12, hk_13, hk_14, rfl⟩
    refine k_ws [(cAI g a_st 44 d_st), (cO11_i1r1i10r1i2r5i2r12i3r4i2 h0 m_thrown2_1 a_tape m_taped m_size m_at m_end m_token m_whole m_nameSize m_fault m_place m_trouble2_2 a_letters m_failed m_hasHouse a_r a_fresh a_st a_undone a_kept m_undos m_images a_from a_begin a_motor a_change a_startFrame a_changeFrame a_lostAt a_blackAt a_slips a_leftArc a_died a_arcs m_bestSum m_nearest m_nearestTown a_there a_backAt a_sorted a_parts m_seed1 m_darkNow), (cAI g a_r 311 d_r)] rfl ?_
    refine k_if_ne 36 X dX11_wears_26 (by decide) (fun h_15 => ?_) (fun h_15 => ?_)
    · skip
      have hc_16 := hk_13.resolve_left h_15
      have j_17 : 0 ≤ p1.toInt := hc_16.1
      have iv_18 : IV p1 0 2147483647 := iv_leR hc_16.1 (show IV 0 0 0 from (by decide)) (iv_any p1) (by decide)
      have j_19 : p1.toInt ≤ 99 := hc_16.2
      have iv_20 : IV p1 0 99 := iv_leL hc_16.2 iv_18 (show IV 99 99 99 from (by decide)) (by decide)
      have iv_21 : IV r_11 1 1 := iv_neL h_15 iv_12 (show IV 0 0 0 from (by decide)) (by decide)
      refine k_lconst (v := 0) X dX11_wears_36 (by decide) ?_
      refine k_lstore [(4, .long 0), (0, .ref h0), (1, .int p0), (2, .int p1), (3, .int p2)] X dX11_wears_37 (by decide) rfl ?_
      refine k_iconst (v := 0) X dX11_wears_39 (by decide) ?_
      refine k_istore [(6, .int 0), (4, .long 0), (0, .ref h0), (1, .int p0), (2, .int p1), (3, .int p2)] X dX11_wears_40 (by decide) rfl ?_
      refine (fun hL : ∀ (nn_25 : Nat) (u_22 : Int64) (u_23 : Int32), (2147483647 - u_23.toInt).toNat = nn_25 → (IV u_23 0 8) → Wk p l e _ s m args below meth c _ A g _ _ _ [(cAI g a_st 44 d_st), (cO11_i1r1i10r1i2r5i2r12i3r4i2 h0 m_thrown2_1 a_tape m_taped m_size m_at m_end m_token m_whole m_nameSize m_fault m_place m_trouble2_2 a_letters m_failed m_hasHouse a_r a_fresh a_st a_undone a_kept m_undos m_images a_from a_begin a_motor a_change a_startFrame a_changeFrame a_lostAt a_blackAt a_slips a_leftArc a_died a_arcs m_bestSum m_nearest m_nearestTown a_there a_backAt a_sorted a_parts m_seed1 m_darkNow), (cAI g a_r 311 d_r)] [(6, .int u_23), (4, .long u_22), (0, .ref h0), (1, .int p0), (2, .int p1), (3, .int p2)] 42 [] => hL _ 0 0 rfl (iv_w (show IV 0 0 0 from (by decide)) (by decide) (by decide))) ?_
      refine fun nn_25 => Nat.strongRecOn nn_25 (fun nn_25 ih_27 => ?_)
      intro u_22 u_23 hm_26 hv_24
      refine k_iload X dX11_wears_42 0 rfl ?_
      refine k_aload_n X dX11_wears_44 2 rfl ?_
      refine k_get (ci := 11) X inlX11 rfl 15 (by decide) dX11_wears_45 mw170 1 rfl rfl ?_
      refine k_bipush (v := 10) X dX11_wears_48 (by decide) ?_
      refine k_iald X dX11_wears_50 2 rfl (by unfold vp_in; decide) ?_
      refine k_nm (fun z_28 ez_28 => ?_)
      have i_29 : z_28.toInt = (d_r 10).toInt := by rw [ez_28]; rfl
      have iv_30 : IV z_28 0 6 := rb_10 ez_28 hp_d_r
      refine k_ic_ge 109 X dX11_wears_51 (by decide) (fun h_31 => ?_) (fun h_31 => ?_)
      · skip
        have j_32 : z_28.toInt ≤ u_23.toInt := iv_le h_31
        refine k_ldc2 (v := 2) X dX11_wears_109 mw1269 ?_
        refine k_iload_n X dX11_wears_112 4 rfl ?_
        refine k_i2l X dX11_wears_113 ?_
        refine k_nmL (fun y_33 ey_33 => ?_)
        refine k_lmul X dX11_wears_114 ?_
        refine k_nmL (fun y_34 ey_34 => ?_)
        refine k_lload X dX11_wears_115 1 rfl ?_
        refine k_lmul X dX11_wears_117 ?_
        refine k_nmL (fun y_35 ey_35 => ?_)
        refine k_ldc2 (v := 100) X dX11_wears_118 mw1279 ?_
        refine k_iload_n X dX11_wears_121 5 rfl ?_
        refine k_callSL (n := 3) (As := [.long y_35, .long 100, .int p2]) (st := []) X [] [(cAI g a_st 44 d_st), (cO11_i1r1i10r1i2r5i2r12i3r4i2 h0 m_thrown2_1 a_tape m_taped m_size m_at m_end m_token m_whole m_nameSize m_fault m_place m_trouble2_2 a_letters m_failed m_hasHouse a_r a_fresh a_st a_undone a_kept m_undos m_images a_from a_begin a_motor a_change a_startFrame a_changeFrame a_lostAt a_blackAt a_slips a_leftArc a_died a_arcs m_bestSum m_nearest m_nearestTown a_there a_backAt a_sorted a_parts m_seed1 m_darkNow), (cAI g a_r 311 d_r)] [] [0, 1, 2] (m_lowest l g y_35 100 p2 (by first | exact Or.inr (by decide) | exact Or.inr (by assumption) | exact Or.inl (by assumption))) dX11_wears_122 mw1167 mw1168 mw5 mw1169 yk_yX11_lowest_3 rfl (Nat.le_of_ble_eq_true rfl) (Nat.le_of_ble_eq_true rfl) (Nat.le_of_ble_eq_true rfl) (Nat.le_of_ble_eq_true rfl) (Nat.le_of_ble_eq_true rfl) rfl rfl (by decide) rfl (by decide) (by decide) ?_
        rintro r_36 w rfl
        refine k_ws [(cAI g a_st 44 d_st), (cO11_i1r1i10r1i2r5i2r12i3r4i2 h0 m_thrown2_1 a_tape m_taped m_size m_at m_end m_token m_whole m_nameSize m_fault m_place m_trouble2_2 a_letters m_failed m_hasHouse a_r a_fresh a_st a_undone a_kept m_undos m_images a_from a_begin a_motor a_change a_startFrame a_changeFrame a_lostAt a_blackAt a_slips a_leftArc a_died a_arcs m_bestSum m_nearest m_nearestTown a_there a_backAt a_sorted a_parts m_seed1 m_darkNow), (cAI g a_r 311 d_r)] rfl ?_
        exact k_lret X hr dX11_wears_125 (Nat.le_of_ble_eq_true rfl) (Nat.le_of_ble_eq_true rfl) [1, 2, 0] (by decide) rfl rfl ⟨m_thrown2_1, m_trouble2_2, rfl⟩
      · skip
        have j_37 : u_23.toInt < z_28.toInt := iv_nle h_31
        have iv_38 : IV u_23 0 5 := iv_ltL (iv_nle h_31) hv_24 iv_30 (by decide)
        have iv_39 : IV z_28 1 6 := iv_ltR (iv_nle h_31) hv_24 iv_30 (by decide)
        refine k_lload X dX11_wears_54 1 rfl ?_
        refine k_aload_n X dX11_wears_56 2 rfl ?_
        refine k_iload X dX11_wears_57 0 rfl ?_
        refine k_callVI (n := 1) (As := [.int u_23]) (st := [.long u_22]) X [(cO11_i1r1i10r1i2r5i2r12i3r4i2 h0 m_thrown2_1 a_tape m_taped m_size m_at m_end m_token m_whole m_nameSize m_fault m_place m_trouble2_2 a_letters m_failed m_hasHouse a_r a_fresh a_st a_undone a_kept m_undos m_images a_from a_begin a_motor a_change a_startFrame a_changeFrame a_lostAt a_blackAt a_slips a_leftArc a_died a_arcs m_bestSum m_nearest m_nearestTown a_there a_backAt a_sorted a_parts m_seed1 m_darkNow), (cAI g a_st 44 d_st)] [(cAI g a_r 311 d_r)] [1, 0] [2] (m_isMended l g h0 u_23 m_thrown2_1 a_tape m_taped m_size m_at m_end m_token m_whole m_nameSize m_fault m_place m_trouble2_2 a_letters m_failed m_hasHouse a_r a_fresh a_st a_undone a_kept m_undos m_images a_from a_begin a_motor a_change a_startFrame a_changeFrame a_lostAt a_blackAt a_slips a_leftArc a_died a_arcs m_bestSum m_nearest m_nearestTown a_there a_backAt a_sorted a_parts m_seed1 m_darkNow d_st) dX11_wears_59 mw682 mw683 mw684 mw5 mw685 rfl 11 rfl rfl 0 _ rfl yk_yX11_isMended_1 rfl (Nat.le_of_ble_eq_true rfl) (Nat.le_of_ble_eq_true rfl) (Nat.le_of_ble_eq_true rfl) (Nat.le_of_ble_eq_true rfl) (Nat.le_of_ble_eq_true rfl) rfl rfl (by decide) rfl (by decide) (by decide) ?_
        rintro r_40 w ⟨iv_41, rfl⟩
        refine k_ws [(cAI g a_r 311 d_r), (cO11_i1r1i10r1i2r5i2r12i3r4i2 h0 m_thrown2_1 a_tape m_taped m_size m_at m_end m_token m_whole m_nameSize m_fault m_place m_trouble2_2 a_letters m_failed m_hasHouse a_r a_fresh a_st a_undone a_kept m_undos m_images a_from a_begin a_motor a_change a_startFrame a_changeFrame a_lostAt a_blackAt a_slips a_leftArc a_died a_arcs m_bestSum m_nearest m_nearestTown a_there a_backAt a_sorted a_parts m_seed1 m_darkNow), (cAI g a_st 44 d_st)] rfl ?_
        refine k_if_ne 99 X dX11_wears_62 (by decide) (fun h_42 => ?_) (fun h_42 => ?_)
        · skip
          have iv_43 : IV r_40 1 1 := iv_neL h_42 iv_41 (show IV 0 0 0 from (by decide)) (by decide)
          refine k_lconst (v := 0) X dX11_wears_99 (by decide) ?_
          refine k_ladd X dX11_wears_100 ?_
          refine k_nmL (fun y_44 ey_44 => ?_)
          refine k_lstore [(4, .long y_44), (6, .int u_23), (0, .ref h0), (1, .int p0), (2, .int p1), (3, .int p2)] X dX11_wears_101 (by decide) rfl ?_
          obtain ⟨z_45, ez_45⟩ : ∃ y : Int32, u_23 + Int32.ofInt 1 = y := ⟨_, rfl⟩
          refine k_iinc z_45 [(6, .int z_45), (4, .long y_44), (0, .ref h0), (1, .int p0), (2, .int p1), (3, .int p2)] 1 X dX11_wears_103 rfl ez_45 (by decide) rfl ?_
          have i_46 : z_45.toInt = u_23.toInt + 1 := in_inc ez_45 (by decide) iv_38 (by decide) (by decide)
          have iv_47 : IV z_45 1 6 := iz1 i_46 iv_38 (by decide) (by decide)
          refine k_goto 42 X dX11_wears_106 (by decide) ?_
          refine k_sub [(cAI g a_st 44 d_st), (cO11_i1r1i10r1i2r5i2r12i3r4i2 h0 m_thrown2_1 a_tape m_taped m_size m_at m_end m_token m_whole m_nameSize m_fault m_place m_trouble2_2 a_letters m_failed m_hasHouse a_r a_fresh a_st a_undone a_kept m_undos m_images a_from a_begin a_motor a_change a_startFrame a_changeFrame a_lostAt a_blackAt a_slips a_leftArc a_died a_arcs m_bestSum m_nearest m_nearestTown a_there a_backAt a_sorted a_parts m_seed1 m_darkNow), (cAI g a_r 311 d_r)] [2, 1, 0] rfl (by decide) rfl ?_
          exact ih_27 _ (by omega) y_44 z_45 rfl (iv_w iv_47 (by decide) (by decide))
        · skip
          have iv_48 : IV r_40 0 0 := iv_meet iv_41 (iv_e h_42 (show IV 0 0 0 from (by decide))) (by decide) (by decide)
          refine k_aload_n X dX11_wears_65 2 rfl ?_
          refine k_get (ci := 11) X inlX11 rfl 15 (by decide) dX11_wears_66 mw170 1 rfl rfl ?_
          refine k_bipush (v := 96) X dX11_wears_69 (by decide) ?_
          refine k_iconst (v := 3) X dX11_wears_71 (by decide) ?_
          refine k_iload X dX11_wears_72 0 rfl ?_
          refine k_imul X dX11_wears_74 ?_
          refine k_nm (fun z_49 ez_49 => ?_)
          have i_50 : z_49.toInt = 3 * u_23.toInt := in_mul ez_49 (by decide) (by decide) iv_38 (by decide) (by decide)
          have iv_51 : IV z_49 0 15 := iz4 i_50 iv_38 (by decide) (by decide) (by decide)
          refine k_iadd X dX11_wears_75 ?_
          refine k_nm (fun z_52 ez_52 => ?_)
          have i_53 : z_52.toInt = 96 + z_49.toInt := in_add ez_52 (show IV 96 96 96 from (by decide)) iv_51 (by decide) (by decide)
          have iv_54 : IV z_52 96 111 := iz2 i_53 iv_51 (by decide) (by decide)
          refine k_iald X dX11_wears_76 0 rfl (iv_in iv_54 (by decide) (by decide)) ?_
          refine k_nm (fun z_55 ez_55 => ?_)
          have i_56 : z_52.toInt = 96 + 3 * u_23.toInt := by omega
          have iv_57 : IV z_55 0 7 := rb_96_3 ez_55 hp_d_r i_56 (iv_w iv_38 (by decide) (by decide))
          refine k_iload_n X dX11_wears_77 3 rfl ?_
          refine k_ic_ne 99 X dX11_wears_78 (by decide) (fun h_58 => ?_) (fun h_58 => ?_)
          · skip
            refine k_lconst (v := 0) X dX11_wears_99 (by decide) ?_
            refine k_ladd X dX11_wears_100 ?_
            refine k_nmL (fun y_59 ey_59 => ?_)
            refine k_lstore [(4, .long y_59), (6, .int u_23), (0, .ref h0), (1, .int p0), (2, .int p1), (3, .int p2)] X dX11_wears_101 (by decide) rfl ?_
            obtain ⟨z_60, ez_60⟩ : ∃ y : Int32, u_23 + Int32.ofInt 1 = y := ⟨_, rfl⟩
            refine k_iinc z_60 [(6, .int z_60), (4, .long y_59), (0, .ref h0), (1, .int p0), (2, .int p1), (3, .int p2)] 1 X dX11_wears_103 rfl ez_60 (by decide) rfl ?_
            have i_61 : z_60.toInt = u_23.toInt + 1 := in_inc ez_60 (by decide) iv_38 (by decide) (by decide)
            have iv_62 : IV z_60 1 6 := iz1 i_61 iv_38 (by decide) (by decide)
            refine k_goto 42 X dX11_wears_106 (by decide) ?_
            refine k_sub [(cAI g a_st 44 d_st), (cO11_i1r1i10r1i2r5i2r12i3r4i2 h0 m_thrown2_1 a_tape m_taped m_size m_at m_end m_token m_whole m_nameSize m_fault m_place m_trouble2_2 a_letters m_failed m_hasHouse a_r a_fresh a_st a_undone a_kept m_undos m_images a_from a_begin a_motor a_change a_startFrame a_changeFrame a_lostAt a_blackAt a_slips a_leftArc a_died a_arcs m_bestSum m_nearest m_nearestTown a_there a_backAt a_sorted a_parts m_seed1 m_darkNow), (cAI g a_r 311 d_r)] [2, 1, 0] rfl (by decide) rfl ?_
            exact ih_27 _ (by omega) y_59 z_60 rfl (iv_w iv_62 (by decide) (by decide))
          · skip
            refine k_aload_n X dX11_wears_81 2 rfl ?_
            refine k_get (ci := 11) X inlX11 rfl 15 (by decide) dX11_wears_82 mw170 1 rfl rfl ?_
            refine k_bipush (v := 96) X dX11_wears_85 (by decide) ?_
            refine k_iconst (v := 3) X dX11_wears_87 (by decide) ?_
            refine k_iload X dX11_wears_88 0 rfl ?_
            refine k_imul X dX11_wears_90 ?_
            refine k_to z_49 ez_49.symm ?_
            refine k_iadd X dX11_wears_91 ?_
            refine k_to z_52 ez_52.symm ?_
            refine k_iconst (v := 2) X dX11_wears_92 (by decide) ?_
            refine k_iadd X dX11_wears_93 ?_
            refine k_nm (fun z_63 ez_63 => ?_)
            have i_64 : z_63.toInt = z_52.toInt + 2 := in_add ez_63 iv_54 (show IV 2 2 2 from (by decide)) (by decide) (by decide)
            have iv_65 : IV z_63 98 113 := iz1 i_64 iv_54 (by decide) (by decide)
            refine k_iald X dX11_wears_94 0 rfl (iv_in iv_65 (by decide) (by decide)) ?_
            refine k_nm (fun z_66 ez_66 => ?_)
            refine k_i2l X dX11_wears_95 ?_
            refine k_nmL (fun y_67 ey_67 => ?_)
            refine k_goto 100 X dX11_wears_96 (by decide) ?_
            refine k_ladd X dX11_wears_100 ?_
            refine k_nmL (fun y_68 ey_68 => ?_)
            refine k_lstore [(4, .long y_68), (6, .int u_23), (0, .ref h0), (1, .int p0), (2, .int p1), (3, .int p2)] X dX11_wears_101 (by decide) rfl ?_
            obtain ⟨z_69, ez_69⟩ : ∃ y : Int32, u_23 + Int32.ofInt 1 = y := ⟨_, rfl⟩
            refine k_iinc z_69 [(6, .int z_69), (4, .long y_68), (0, .ref h0), (1, .int p0), (2, .int p1), (3, .int p2)] 1 X dX11_wears_103 rfl ez_69 (by decide) rfl ?_
            have i_70 : z_69.toInt = u_23.toInt + 1 := in_inc ez_69 (by decide) iv_38 (by decide) (by decide)
            have iv_71 : IV z_69 1 6 := iz1 i_70 iv_38 (by decide) (by decide)
            refine k_goto 42 X dX11_wears_106 (by decide) ?_
            refine k_sub [(cAI g a_st 44 d_st), (cO11_i1r1i10r1i2r5i2r12i3r4i2 h0 m_thrown2_1 a_tape m_taped m_size m_at m_end m_token m_whole m_nameSize m_fault m_place m_trouble2_2 a_letters m_failed m_hasHouse a_r a_fresh a_st a_undone a_kept m_undos m_images a_from a_begin a_motor a_change a_startFrame a_changeFrame a_lostAt a_blackAt a_slips a_leftArc a_died a_arcs m_bestSum m_nearest m_nearestTown a_there a_backAt a_sorted a_parts m_seed1 m_darkNow), (cAI g a_r 311 d_r)] [2, 1, 0] rfl (by decide) rfl ?_
            exact ih_27 _ (by omega) y_68 z_69 rfl (iv_w iv_71 (by decide) (by decide))
    · skip
      have iv_72 : IV r_11 0 0 := iv_meet iv_12 (iv_e h_15 (show IV 0 0 0 from (by decide))) (by decide) (by decide)
      have hc_73 := hk_14 (iv_eq iv_72 (show IV 0 0 0 from (by decide)))
      have j_74 : p1.toInt < 0 ∨ 99 < p1.toInt := hc_73
      refine k_aload_n X dX11_wears_29 0 rfl ?_
      refine k_iconst (v := 2) X dX11_wears_30 (by decide) ?_
      refine k_callVI (n := 1) (As := [.int 2]) (st := []) X [(cO11_i1r1i10r1i2r5i2r12i3r4i2 h0 m_thrown2_1 a_tape m_taped m_size m_at m_end m_token m_whole m_nameSize m_fault m_place m_trouble2_2 a_letters m_failed m_hasHouse a_r a_fresh a_st a_undone a_kept m_undos m_images a_from a_begin a_motor a_change a_startFrame a_changeFrame a_lostAt a_blackAt a_slips a_leftArc a_died a_arcs m_bestSum m_nearest m_nearestTown a_there a_backAt a_sorted a_parts m_seed1 m_darkNow)] [(cAI g a_st 44 d_st), (cAI g a_r 311 d_r)] [1] [0, 2] (m_no l g h0 2 m_thrown2_1 a_tape m_taped m_size m_at m_end m_token m_whole m_nameSize m_fault m_place m_trouble2_2 a_letters m_failed m_hasHouse a_r a_fresh a_st a_undone a_kept m_undos m_images a_from a_begin a_motor a_change a_startFrame a_changeFrame a_lostAt a_blackAt a_slips a_leftArc a_died a_arcs m_bestSum m_nearest m_nearestTown a_there a_backAt a_sorted a_parts m_seed1 m_darkNow) dX11_wears_31 mw485 mw486 mw487 mw5 mw488 rfl 11 rfl rfl 0 _ rfl yk_yX11_no_1 rfl (Nat.le_of_ble_eq_true rfl) (Nat.le_of_ble_eq_true rfl) (Nat.le_of_ble_eq_true rfl) (Nat.le_of_ble_eq_true rfl) (Nat.le_of_ble_eq_true rfl) rfl rfl (by decide) rfl (by decide) (by decide) ?_
      rintro r_76 w ⟨m_trouble2_75, iv_77, rfl⟩
      refine k_ws [(cAI g a_st 44 d_st), (cAI g a_r 311 d_r), (cO11_i1r1i10r1i2r5i2r12i3r4i2 h0 m_thrown2_1 a_tape m_taped m_size m_at m_end m_token m_whole m_nameSize m_fault m_place m_trouble2_75 a_letters m_failed m_hasHouse a_r a_fresh a_st a_undone a_kept m_undos m_images a_from a_begin a_motor a_change a_startFrame a_changeFrame a_lostAt a_blackAt a_slips a_leftArc a_died a_arcs m_bestSum m_nearest m_nearestTown a_there a_backAt a_sorted a_parts m_seed1 m_darkNow)] rfl ?_
      refine k_i2l X dX11_wears_34 ?_
      refine k_nmL (fun y_78 ey_78 => ?_)
      exact k_lret X hr dX11_wears_35 (Nat.le_of_ble_eq_true rfl) (Nat.le_of_ble_eq_true rfl) [2, 1, 0] (by decide) rfl rfl ⟨m_thrown2_1, m_trouble2_75, rfl⟩
  · skip
    have iv_79 : IV r_4 0 0 := iv_meet iv_5 (iv_e h_7 (show IV 0 0 0 from (by decide))) (by decide) (by decide)
    refine k_aload_n X dX11_wears_12 0 rfl ?_
    refine k_iconst (v := 1) X dX11_wears_13 (by decide) ?_
    refine k_callVI (n := 1) (As := [.int 1]) (st := []) X [(cO11_i1r1i10r1i2r5i2r12i3r4i2 h0 m_thrown2_1 a_tape m_taped m_size m_at m_end m_token m_whole m_nameSize m_fault m_place m_trouble2_2 a_letters m_failed m_hasHouse a_r a_fresh a_st a_undone a_kept m_undos m_images a_from a_begin a_motor a_change a_startFrame a_changeFrame a_lostAt a_blackAt a_slips a_leftArc a_died a_arcs m_bestSum m_nearest m_nearestTown a_there a_backAt a_sorted a_parts m_seed1 m_darkNow)] [(cAI g a_st 44 d_st), (cAI g a_r 311 d_r)] [1] [0, 2] (m_no l g h0 1 m_thrown2_1 a_tape m_taped m_size m_at m_end m_token m_whole m_nameSize m_fault m_place m_trouble2_2 a_letters m_failed m_hasHouse a_r a_fresh a_st a_undone a_kept m_undos m_images a_from a_begin a_motor a_change a_startFrame a_changeFrame a_lostAt a_blackAt a_slips a_leftArc a_died a_arcs m_bestSum m_nearest m_nearestTown a_there a_backAt a_sorted a_parts m_seed1 m_darkNow) dX11_wears_14 mw485 mw486 mw487 mw5 mw488 rfl 11 rfl rfl 0 _ rfl yk_yX11_no_1 rfl (Nat.le_of_ble_eq_true rfl) (Nat.le_of_ble_eq_true rfl) (Nat.le_of_ble_eq_true rfl) (Nat.le_of_ble_eq_true rfl) (Nat.le_of_ble_eq_true rfl) rfl rfl (by decide) rfl (by decide) (by decide) ?_
    rintro r_81 w ⟨m_trouble2_80, iv_82, rfl⟩
    refine k_ws [(cAI g a_st 44 d_st), (cAI g a_r 311 d_r), (cO11_i1r1i10r1i2r5i2r12i3r4i2 h0 m_thrown2_1 a_tape m_taped m_size m_at m_end m_token m_whole m_nameSize m_fault m_place m_trouble2_80 a_letters m_failed m_hasHouse a_r a_fresh a_st a_undone a_kept m_undos m_images a_from a_begin a_motor a_change a_startFrame a_changeFrame a_lostAt a_blackAt a_slips a_leftArc a_died a_arcs m_bestSum m_nearest m_nearestTown a_there a_backAt a_sorted a_parts m_seed1 m_darkNow)] rfl ?_
    refine k_i2l X dX11_wears_17 ?_
    refine k_nmL (fun y_83 ey_83 => ?_)
    exact k_lret X hr dX11_wears_18 (Nat.le_of_ble_eq_true rfl) (Nat.le_of_ble_eq_true rfl) [2, 1, 0] (by decide) rfl rfl ⟨m_thrown2_1, m_trouble2_80, rfl⟩
